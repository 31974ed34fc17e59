import java.util.ArrayList;
import java.util.List;
import java.util.function.Supplier;
import java.util.function.ToLongFunction;

/** Each call that is refused, which of several refusals comes first, and that it changes nothing. */
public final class RefusalTests {
    private static final long UNKNOWN = Play.UNKNOWN, OUTSIDE = Play.OUTSIDE, STATE = Play.STATE;
    private static final long FULL = Play.FULL, NO = Play.NO;
    private static final long GONE = -1000000000000000000L;
    private static final int EVERY_HOUR = Play.EVERY_HOUR;
    private static final int LOW = Play.LOW, HIGH = Play.HIGH;
    private static final Due due = new Due("RefusalTests");

    private RefusalTests() {
    }

    public static void main(String[] args) {
        due.sentence("Calls that are refused answer, the first of these that fits: UNKNOWN -1 (there is no such COURTIER), "
                + "OUTSIDE -2 (another number is not as told), NO -5 (as told), STATE -3 (as told), FULL -4");
        anyState(RefusalTests::fine);
        anyState(RefusalTests::faulty);
        anyState(RefusalTests::stopped);
        anyState(RefusalTests::full);
        anyState(RefusalTests::bareNew);
        ofPads();
        ofPadsThatAreFull();
        ofImages();
        due.end();
    }

    // A, C and F are there; the pad, the hands, the wear, the sights and the image 0 hold something.
    private static GloveHours fine() {
        GloveHours x = new GloveHours();
        x.courtier(0, Play.hours(0, 5, 6, 23));
        x.courtier(2, Play.hours(6, 7));
        x.courtier(5, Play.hours(6));
        x.set(0, 6);
        x.set(1, 5);
        Play.done(x, "Ar06Al05Cr06A!AC.");
        x.seen(6, true);
        x.seen(8, false);
        x.image(0);
        Play.done(x, "Fr06F!.");
        Play.day(x, "A!CA.F!");
        return x;
    }

    private static GloveHours faulty() {
        return Play.say(fine(), "B!x");
    }

    private static GloveHours stopped() {
        return Play.say(fine(), "A0A!");
    }

    private static GloveHours full() {
        GloveHours x = fine();
        for (int i = 0; i < 6; i++) {
            x.seen(23, false);
        }
        return Play.say(x, ".".repeat(53));
    }

    private static GloveHours bareNew() {
        return Play.court(0, -1, 0, -1, -1, 0);
    }

    private static void putBoth(List<Long> row, long one, long other) {
        row.add(one);
        row.add(other);
    }

    /** All that can be seen without a change. */
    private static List<Long> look(GloveHours x) {
        List<Long> row = new ArrayList<>();
        for (int what = 0; what < 5; what++) {
            row.add((long) x.told(what));
        }
        for (int c : new int[] {0, 2, 5}) {
            for (int what = 0; what < 3; what++) {
                putBoth(row, x.told(10 * (1 + c) + what), x.behind(c, what));
            }
            for (int hour : new int[] {0, 5, 6, 7, 23}) {
                putBoth(row, x.told(100 * (1 + c) + hour), x.wear(c, hour));
            }
            putBoth(row, x.behind(c, 3), x.vespers(c, 100));
        }
        for (int what = 0; what < 3; what++) {
            putBoth(row, x.judge(what), x.reign(17, 60, what));
            putBoth(row, x.deed(0, what), x.deed(2, what));
        }
        for (int what = 0; what < 2; what++) {
            putBoth(row, x.late(what), x.mended(what));
            putBoth(row, x.ask(what), x.can(6, 37, what));
            putBoth(row, x.all(Play.hours(6, 7, 23), what), x.match(Play.hours(5, 6, 7, 23), 1, 6 + what));
        }
        putBoth(row, x.fault(), x.proper());
        row.add((long) x.wore());
        return row;
    }

    /** What can be seen now, and behind image 0, image 1 and one day more. */
    private static List<Long> lookAtAll(GloveHours x) {
        List<Long> row = look(x);
        row.add((long) x.restore(0));
        row.addAll(look(x));
        row.add((long) x.restore(1));
        row.add((long) x.say('.'));
        row.add((long) x.wipe());
        row.add((long) x.done());
        row.addAll(look(x));
        return row;
    }

    /** The call is refused so, and all is as if it had not been. */
    private static void refused(String call, Supplier<GloveHours> court, ToLongFunction<GloveHours> it, long answer) {
        GloveHours x = court.get();
        due.same(call, it.applyAsLong(x), answer);
        due.same(call + " again", it.applyAsLong(x), answer);
        due.holds(call + " changed nothing", lookAtAll(x).equals(lookAtAll(court.get())));
    }

    /** Refusals that are the same whatever is on the pad. */
    private static void anyState(Supplier<GloveHours> court) {
        ofCourtiers(court);
        ofNumbers(court);
        ofDays(court);
        ofSets(court);
        ofCountries(court);
        ofChances(court);
    }

    private static void ofCourtiers(Supplier<GloveHours> court) {
        for (int c : new int[] {-1, 6, LOW, HIGH}) {
            refused("courtier(" + c + ", 1)", court, x -> x.courtier(c, 1), UNKNOWN);
            refused("courtier(" + c + ", -1)", court, x -> x.courtier(c, -1), UNKNOWN);
        }
        for (int pairs : new int[] {-1, EVERY_HOUR + 1, LOW, HIGH}) {
            refused("courtier(0, " + pairs + ")", court, x -> x.courtier(0, pairs), OUTSIDE);
            refused("courtier(1, " + pairs + ")", court, x -> x.courtier(1, pairs), OUTSIDE);
        }
        for (int c : new int[] {-1, 1, 3, 4, 6, LOW, HIGH}) {
            refused("leave(" + c + ")", court, x -> x.leave(c), UNKNOWN);
            refused("behind(" + c + ", 0)", court, x -> x.behind(c, 0), UNKNOWN);
            refused("behind(" + c + ", 4)", court, x -> x.behind(c, 4), UNKNOWN);
            refused("wear(" + c + ", 6)", court, x -> x.wear(c, 6), UNKNOWN);
            refused("wear(" + c + ", 24)", court, x -> x.wear(c, 24), UNKNOWN);
            refused("vespers(" + c + ", 10)", court, x -> x.vespers(c, 10), UNKNOWN);
            refused("vespers(" + c + ", 1000)", court, x -> x.vespers(c, 1000), UNKNOWN);
            refused("vespers(" + c + ", -1)", court, x -> x.vespers(c, -1), UNKNOWN);
        }
        for (int candles : new int[] {-1, 1000, LOW, HIGH}) {
            refused("vespers(0, " + candles + ")", court, x -> x.vespers(0, candles), OUTSIDE);
        }
    }

    private static void ofNumbers(Supplier<GloveHours> court) {
        for (int hour : new int[] {-1, 24, LOW, HIGH}) {
            refused("set(0, " + hour + ")", court, x -> x.set(0, hour), OUTSIDE);
            refused("seen(" + hour + ", true)", court, x -> x.seen(hour, true), OUTSIDE);
            refused("seen(" + hour + ", false)", court, x -> x.seen(hour, false), OUTSIDE);
        }
        for (int tears : new int[] {0, 21, LOW, HIGH}) {
            refused("set(1, " + tears + ")", court, x -> x.set(1, tears), OUTSIDE);
        }
        for (int which : new int[] {-1, 2, LOW, HIGH}) {
            refused("set(" + which + ", 1)", court, x -> x.set(which, 1), OUTSIDE);
            refused("image(" + which + ")", court, x -> x.image(which), OUTSIDE);
            refused("restore(" + which + ")", court, x -> x.restore(which), OUTSIDE);
            refused("ask(" + which + ")", court, x -> x.ask(which), OUTSIDE);
        }
        for (int sign : new int[] {32, 127, 0, -1, LOW, HIGH}) {
            refused("say(" + sign + ")", court, x -> x.say(sign), OUTSIDE);
        }
        for (int what : new int[] {-1, 5, 9, 13, 20, 22, 69, 73, 99, 124, 200, 300 + 24, 724, LOW, HIGH}) {
            refused("told(" + what + ")", court, x -> x.told(what), OUTSIDE);
        }
    }

    private static void ofDays(Supplier<GloveHours> court) {
        for (int what : new int[] {-1, 4, LOW, HIGH}) {
            refused("behind(0, " + what + ")", court, x -> x.behind(0, what), OUTSIDE);
            refused("judge(" + what + ")", court, x -> x.judge(what), OUTSIDE);
            refused("deed(0, " + what + ")", court, x -> x.deed(0, what), OUTSIDE);
            refused("deed(99, " + what + ")", court, x -> x.deed(99, what), OUTSIDE);
            refused("late(" + what + ")", court, x -> x.late(what), OUTSIDE);
            refused("mended(" + what + ")", court, x -> x.mended(what), OUTSIDE);
            refused("wear(0, 20 and " + what + ")", court, x -> x.wear(0, what < 0 ? what : 20 + what), OUTSIDE);
        }
        refused("judge(3)", court, x -> x.judge(3), OUTSIDE);
        refused("deed(0, 3)", court, x -> x.deed(0, 3), OUTSIDE);
        refused("late(2)", court, x -> x.late(2), OUTSIDE);
        refused("mended(2)", court, x -> x.mended(2), OUTSIDE);
    }

    private static void ofSets(Supplier<GloveHours> court) {
        for (int set : new int[] {2, 8, 16, 64, 63, 39, -1, LOW, HIGH}) {
            refused("can(6, " + set + ", 0)", court, x -> x.can(6, set, 0), UNKNOWN);
            refused("can(24, " + set + ", 0)", court, x -> x.can(24, set, 0), UNKNOWN);
            refused("can(6, " + set + ", 2)", court, x -> x.can(6, set, 2), UNKNOWN);
        }
        for (int out : new int[] {-1, 24, LOW, HIGH}) {
            refused("can(" + out + ", 5, 0)", court, x -> x.can(out, 5, 0), OUTSIDE);
            refused("can(6, 5, " + out + ")", court, x -> x.can(6, 5, out), OUTSIDE);
            refused("all(1, " + out + ")", court, x -> x.all(1, out), OUTSIDE);
            refused("match(1, 25 or " + out + ", 0)", court, x -> x.match(1, out == 24 ? 25 : out, 0), OUTSIDE);
        }
        for (int set : new int[] {-1, EVERY_HOUR + 1, LOW, HIGH}) {
            refused("all(" + set + ", 0)", court, x -> x.all(set, 0), OUTSIDE);
            refused("all(" + set + ", 2)", court, x -> x.all(set, 2), OUTSIDE);
            refused("match(" + set + ", 1, -1)", court, x -> x.match(set, 1, -1), OUTSIDE);
            refused("match(" + set + ", 1, 24)", court, x -> x.match(set, 1, 24), OUTSIDE);
            refused("match(" + set + ", 0, 24)", court, x -> x.match(set, 0, 24), OUTSIDE);
        }
        refused("can(6, 5, 2)", court, x -> x.can(6, 5, 2), OUTSIDE);
        refused("all(1, 2)", court, x -> x.all(1, 2), OUTSIDE);
        refused("match(1, 0, -1)", court, x -> x.match(1, 0, -1), OUTSIDE);
        refused("match(1, 0, 1)", court, x -> x.match(1, 0, 1), OUTSIDE);
        refused("match(1, 25, 1)", court, x -> x.match(1, 25, 1), OUTSIDE);
        for (int hour : new int[] {-2, 1, 23, 24, LOW, HIGH}) {
            refused("match(1, 1, " + hour + ")", court, x -> x.match(1, 1, hour), UNKNOWN);
        }
    }

    private static void ofCountries(Supplier<GloveHours> court) {
        int[][] outside = {{0, 0, 6, 3}, {1000, 0, 6, 3}, {4, 1, 0, 0}, {4, 1, 1000, 0}, {4, 4, 6, 3}, {4, -1, 6, 3},
            {4, 1, 6, 6}, {4, 1, 6, -1}, {LOW, LOW, HIGH, HIGH}};
        for (int[] o : outside) {
            String name = "(" + o[0] + ", " + o[1] + ", " + o[2] + ", " + o[3];
            refused("strikes" + name + ")", court, x -> x.strikes(o[0], o[1], o[2], o[3]), OUTSIDE);
            refused("often" + name + ", 5)", court, x -> x.often(o[0], o[1], o[2], o[3], 5), OUTSIDE);
        }
        for (int m : new int[] {-1, 1000000, LOW, HIGH}) {
            refused("often(4, 1, 6, 3, " + m + ")", court, x -> x.often(4, 1, 6, 3, m), OUTSIDE);
        }
    }

    private static void ofChances(Supplier<GloveHours> court) {
        int[][] outside = {{-1, 1, 1, 0, 0}, {10, 1, 1, 0, 0}, {1, -1, 1, 0, 0}, {1, 13, 1, 0, 0}, {1, 1, -1, 0, 0},
            {1, 1, 11, 0, 0}, {1, 1, 1, -1, 0}, {1, 1, 1, 2, 0}, {1, 1, 1, 0, -1}, {1, 1, 1, 0, 2},
            {LOW, HIGH, LOW, HIGH, LOW}};
        for (int[] o : outside) {
            String name = "tear(" + o[0] + ", " + o[1] + ", " + o[2] + ", " + o[3] + ", " + o[4] + ")";
            refused(name, court, x -> x.tear(o[0], o[1], o[2], o[3], o[4]), GONE + OUTSIDE);
        }
        int[][] reigns = {{-1, 1, 0}, {10000, 1, 0}, {0, 0, 0}, {0, 100, 0}, {0, 1, -1}, {0, 1, 3}, {LOW, HIGH, LOW}};
        for (int[] o : reigns) {
            String name = "reign(" + o[0] + ", " + o[1] + ", " + o[2] + ")";
            refused(name, court, x -> x.reign(o[0], o[1], o[2]), OUTSIDE);
        }
    }

    private static void ofDay(Supplier<GloveHours> court, long answer) {
        for (int what = 0; what < 4; what++) {
            int it = what;
            refused("behind(0, " + what + ")", court, x -> x.behind(0, it), answer);
            refused("deed(0, " + what % 3 + ")", court, x -> x.deed(0, it % 3), answer);
            refused("deed(-1, " + what % 3 + ")", court, x -> x.deed(-1, it % 3), answer);
            refused("deed(60, " + what % 3 + ")", court, x -> x.deed(60, it % 3), answer);
            refused("late(" + what % 2 + ")", court, x -> x.late(it % 2), answer);
            refused("mended(" + what % 2 + ")", court, x -> x.mended(it % 2), answer);
        }
        refused("wear(0, 6)", court, x -> x.wear(0, 6), answer);
        refused("wear(0, 1)", court, x -> x.wear(0, 1), answer);
        refused("judge(2)", court, x -> x.judge(2), answer);
        refused("done()", court, GloveHours::done, answer);
    }

    private static void ofPads() {
        ofDay(RefusalTests::faulty, NO);
        refused("judge(0)", RefusalTests::faulty, x -> x.judge(0), NO);
        refused("judge(1)", RefusalTests::faulty, x -> x.judge(1), NO);
        ofDay(RefusalTests::stopped, STATE);
        // An act that can not be, and a fault behind it.
        Supplier<GloveHours> both = () -> Play.say(stopped(), "A");
        ofDay(both, NO);
        refused("judge(0)", both, x -> x.judge(0), NO);
        due.sentence("OUTSIDE: what; NO, STATE, likewise; UNKNOWN (behind that): there is no such DEED.");
        for (int k : new int[] {-1, 4, 60, 99, LOW, HIGH}) {
            for (int what = 0; what < 3; what++) {
                int it = what;
                refused("deed(" + k + ", " + what + ")", RefusalTests::fine, x -> x.deed(k, it), UNKNOWN);
            }
        }
    }

    private static void ofPadsThatAreFull() {
        due.sentence("OUTSIDE; FULL.");
        for (int sign : new int[] {33, 46, 65, 126}) {
            refused("say(" + sign + ")", RefusalTests::full, x -> x.say(sign), FULL);
        }
        for (int hour = 0; hour < 24; hour++) {
            int it = hour;
            refused("seen(" + hour + ", true)", RefusalTests::full, x -> x.seen(it, true), FULL);
            refused("seen(" + hour + ", false)", RefusalTests::full, x -> x.seen(it, false), FULL);
        }
    }

    private static void ofImages() {
        due.sentence("OUTSIDE; STATE: it was not.");
        refused("restore(1)", RefusalTests::fine, x -> x.restore(1), STATE);
        refused("restore(1)", RefusalTests::faulty, x -> x.restore(1), STATE);
        refused("restore(0)", RefusalTests::bareNew, x -> x.restore(0), STATE);
        refused("restore(1)", RefusalTests::bareNew, x -> x.restore(1), STATE);
    }
}
