import java.util.List;
import java.util.function.ToIntFunction;

/** The second part's sentences that name a boundary case, each by itself: days that are told and done (promises 8 to 15). */
public final class EdgesOfDays {
    private static final int UNKNOWN = Play.UNKNOWN, OUTSIDE = Play.OUTSIDE, STATE = Play.STATE;
    private static final int NO = Play.NO, NONE = Play.NONE;
    private static final int EVERY_HOUR = Play.EVERY_HOUR, BARE = Play.BARE;
    private static final int LOW = Play.LOW, HIGH = Play.HIGH;
    private static final Due due = new Due("EdgesOfDays");

    private EdgesOfDays() {
    }

    public static void main(String[] args) {
        whatIsJudged();
        faultAheadOfActs();
        stateOfDeedsAlone();
        promiseIsTwo();
        behindIsAsOfThePad();
        whatIsBehind();
        scandalsBehind();
        wearBehind();
        kthDeed();
        firstOnesFirst();
        clockThen();
        firstLate();
        howManyLate();
        doneEmptiesThePad();
        doneTellsActs();
        nothingIsDoneButByDone();
        properIsNow();
        hoursOfCan();
        setsOfCan();
        howManyCan();
        fewestGiven();
        likewiseRefused();
        due.end();
    }

    private static void same(String call, long got, long want) {
        due.same(call, got, want);
    }

    private static int hours(int... hours) {
        return Play.hours(hours);
    }

    private static void whatIsJudged() {
        due.sentence("JUDGED: the ACT (what = 0), why (1), DEEDS (2); NONE. OUTSIDE");
        GloveHours x = Play.court(hours(6));
        for (String signs : new String[] {"", "A0", "A!", "Ax"}) {
            Play.day(x, signs);
            for (int what : new int[] {-1, 3, LOW, HIGH}) {
                same("judge(" + what + ") of " + signs, x.judge(what), OUTSIDE);
            }
        }
        Play.day(x, "A0.A!");
        same("judge(0)", x.judge(0), 2);
        same("judge(1)", x.judge(1), 5);
        Play.day(x, "A0.");
        same("judge(0) of what can be", x.judge(0), NONE);
        same("judge(1) of what can be", x.judge(1), NONE);
        same("judge(2) of what can be", x.judge(2), 0);
        x.courtier(0, 0);
        Play.day(x, "Ar06");
        same("judge(1) when he owns it no more", x.judge(1), 3);
        x.leave(0);
        same("judge(1) when he left", x.judge(1), 1);
        x.courtier(0, hours(6));
        same("judge(1) when he is back", x.judge(1), NONE);
    }

    private static void faultAheadOfActs() {
        due.sentence("NO: there is a FAULT");
        GloveHours x = Play.court(1);
        for (String signs : new String[] {"x", "A", "A!A", "B!x", "A!Ar2", "A!Ar24", "B0A>"}) {
            Play.day(x, signs);
            for (int what = 0; what < 3; what++) {
                same("judge(" + what + ") of " + signs, x.judge(what), NO);
            }
            same("done() of " + signs, x.done(), NO);
            same("told(0) of " + signs, x.told(0), signs.length());
        }
        Play.day(x, "B0A");
        x.say('0');
        same("judge(0) when the fault is gone", x.judge(0), 0);
    }

    private static void stateOfDeedsAlone() {
        due.sentence("STATE (2): some ACT can not be.");
        GloveHours x = Play.court(1);
        for (String signs : new String[] {"A!", "B0", "A0A!", "Ar00A!A0A!", "Ar01."}) {
            Play.day(x, signs);
            same("judge(2) of " + signs, x.judge(2), STATE);
            due.holds("judge(0) of " + signs + " is told", x.judge(0) >= 0);
            due.holds("judge(1) of " + signs + " is told", x.judge(1) >= 1);
        }
    }

    private static void promiseIsTwo() {
        due.sentence("how many DEEDS (a promise is two)");
        GloveHours x = Play.court(1, 1, 1, 1);
        x.set(1, 20);
        same("of none", x.judge(2), 0);
        Play.day(x, "A0.");
        same("of acts that are no deeds", x.judge(2), 0);
        Play.day(x, "Ar00A!");
        same("of a deed", x.judge(2), 1);
        Play.day(x, "Ar00Br00AB");
        same("of a promise", x.judge(2), 2);
        Play.done(x, "Ar00Br00Cr00Dr00");
        Play.day(x, "AB".repeat(15) + "CD".repeat(15));
        same("of thirty promises", x.judge(2), 60);
        for (int k = 0; k < 60; k++) {
            same("deed(" + k + ", 2)", x.deed(k, 2), (k < 30 ? 0 : 2) + k % 2);
        }
        same("deed(60, 2)", x.deed(60, 2), UNKNOWN);
        same("late(0)", x.late(0), NONE);
        x.set(0, 1);
        same("late(1)", x.late(1), 60);
        same("mended(0)", x.mended(0), 0);
        same("wear(3, 0)", x.wear(3, 0), 15);
        same("done()", x.done(), 30);
        same("told(100)", x.told(100), 15);
    }

    private static void behindIsAsOfThePad() {
        due.sentence("BEHIND: of a COURTIER his left, right (24: BARE), SCANDALS, PAIRS (bits).");
        GloveHours x = Play.court(hours(0, 23), EVERY_HOUR, 0);
        same("left at first", x.behind(0, 0), 24);
        same("right at first", x.behind(0, 1), 24);
        same("scandals at first", x.behind(0, 2), 0);
        same("pairs at first", x.behind(0, 3), hours(0, 23));
        same("every pair", x.behind(1, 3), 16777215);
        same("no pair", x.behind(2, 3), 0);
        Play.done(x, "Ar23Al00.");
        same("left of an empty pad is as told", x.behind(0, 0), 0);
        same("right of an empty pad is as told", x.behind(0, 1), 23);
        same("scandals of an empty pad are as told", x.behind(0, 2), 1);
        Play.day(x, "A0.");
        same("left behind", x.behind(0, 0), 24);
        same("right behind", x.behind(0, 1), 24);
        same("scandals behind", x.behind(0, 2), 2);
        same("left as told", x.told(10), 0);
    }

    private static void whatIsBehind() {
        due.sentence("BEHIND: left (what = 0), right (1), SCANDALS (2), PAIRS (3). UNKNOWN; OUTSIDE; NO, STATE, as of judge(2).");
        GloveHours x = Play.court(1, 1);
        for (String signs : new String[] {"", ".", "A!", "Ax"}) {
            Play.day(x, signs);
            for (int what : new int[] {-1, 4, LOW, HIGH}) {
                same("behind(0, " + what + ") of " + signs, x.behind(0, what), OUTSIDE);
                same("behind(2, " + what + ") of " + signs, x.behind(2, what), UNKNOWN);
            }
            for (int what = 0; what < 4; what++) {
                same("behind(-1, " + what + ") of " + signs, x.behind(-1, what), UNKNOWN);
                same("behind(5, " + what + ") of " + signs, x.behind(5, what), UNKNOWN);
                same("behind(6, " + what + ") of " + signs, x.behind(6, what), UNKNOWN);
            }
        }
    }

    private static void scandalsBehind() {
        due.sentence("SCANDALS (0 at first; 99 at most)");
        GloveHours x = Play.court(0);
        Play.done(x, ".".repeat(59));
        Play.day(x, ".".repeat(39));
        same("98 behind", x.behind(0, 2), 98);
        x.say('.');
        same("99 behind", x.behind(0, 2), 99);
        x.say('.');
        same("99 at most", x.behind(0, 2), 99);
        same("as told", x.told(12), 59);
    }

    private static void wearBehind() {
        due.sentence("WEAR behind, of a PAIR (NONE: he owns none)");
        GloveHours x = Play.court(hours(0, 23), 0);
        for (int hour : new int[] {-1, 24, 25, LOW, HIGH}) {
            same("wear(0, " + hour + ")", x.wear(0, hour), OUTSIDE);
            same("wear(3, " + hour + ")", x.wear(3, hour), UNKNOWN);
        }
        same("wear(0, 0)", x.wear(0, 0), 0);
        same("wear(0, 23)", x.wear(0, 23), 0);
        same("wear(0, 1)", x.wear(0, 1), NONE);
        same("wear(0, 22)", x.wear(0, 22), NONE);
        same("wear(1, 0)", x.wear(1, 0), NONE);
        x.set(1, 20);
        Play.day(x, "Ar23" + "A!".repeat(19));
        same("19 of 20", x.wear(0, 23), 19);
        Play.say(x, "A!");
        same("20 of 20", x.wear(0, 23), NONE);
    }

    private static void kthDeed() {
        due.sentence("OUTSIDE: what; NO, STATE, likewise; UNKNOWN (behind that): there is no such DEED.");
        GloveHours x = Play.court(hours(6));
        for (int k : new int[] {-1, 0, 1, 60, 99, 100, LOW, HIGH}) {
            same("deed(" + k + ", 0) of an empty day", x.deed(k, 0), UNKNOWN);
        }
        Play.day(x, "Ar06A!A!");
        for (int what = 0; what < 3; what++) {
            same("deed(-1, " + what + ")", x.deed(-1, what), UNKNOWN);
            same("deed(2, " + what + ")", x.deed(2, what), UNKNOWN);
            same("deed(LOW, " + what + ")", x.deed(LOW, what), UNKNOWN);
            same("deed(HIGH, " + what + ")", x.deed(HIGH, what), UNKNOWN);
        }
        for (int what : new int[] {-1, 3, LOW, HIGH}) {
            same("deed(0, " + what + ")", x.deed(0, what), OUTSIDE);
            same("deed(2, " + what + ")", x.deed(2, what), OUTSIDE);
        }
        same("deed(0, 0)", x.deed(0, 0), 6);
        same("deed(1, 0)", x.deed(1, 0), 6);
        Play.day(x, "Ar06A!");
        same("a longer day's deed is forgotten", x.deed(1, 0), UNKNOWN);
    }

    private static void firstOnesFirst() {
        due.sentence("in a promise the first one's first");
        GloveHours x = Play.court(1, 1, 0, 0, 0, 1);
        Play.done(x, "Ar00Br00Fr00");
        Play.day(x, "BAFA");
        int[] whose = {1, 0, 5, 0};
        for (int k = 0; k < 4; k++) {
            same("deed(" + k + ", 2) of BAFA", x.deed(k, 2), whose[k]);
        }
    }

    private static void clockThen() {
        due.sentence("its HOUR, CLOCK then, whose it was");
        GloveHours x = Play.court(hours(0, 23), 0, 0, 0, 0, hours(23));
        x.set(0, 22);
        Play.day(x, "Ar23A!.A!.A!Ar00A!Fr23F!.");
        int[][] deeds = {{23, 22, 0}, {23, 23, 0}, {23, 0, 0}, {0, 0, 0}, {23, 0, 5}};
        for (int k = 0; k < deeds.length; k++) {
            for (int what = 0; what < 3; what++) {
                same("deed(" + k + ", " + what + ")", x.deed(k, what), deeds[k][what]);
            }
        }
        same("deed(5, 0)", x.deed(5, 0), UNKNOWN);
        same("the first late one", x.late(0), 0);
        same("how many are late", x.late(1), 3);
    }

    private static void firstLate() {
        due.sentence("LATE: the DEED (what = 0; NONE)");
        GloveHours x = Play.court(EVERY_HOUR);
        same("of none", x.late(0), NONE);
        Play.day(x, "Ar00A!");
        same("in time", x.late(0), NONE);
        same("in time, how many", x.late(1), 0);
        Play.day(x, "Ar01A!");
        same("an hour early", x.late(0), 0);
        Play.day(x, "Ar23A!");
        same("an hour late", x.late(0), 0);
        Play.day(x, "Ar00A!A!A!.A!");
        same("the last", x.late(0), 3);
        for (int what : new int[] {-1, 2, LOW, HIGH}) {
            same("late(" + what + ")", x.late(what), OUTSIDE);
        }
    }

    private static void howManyLate() {
        due.sentence("the first DEED whose HOUR is not CLOCK's; how many are");
        GloveHours x = Play.court(EVERY_HOUR, EVERY_HOUR);
        Play.done(x, "Ar00Br00");
        x.set(1, 20);
        Play.day(x, "AB".repeat(20));
        same("none of forty", x.late(1), 0);
        same("the first of none", x.late(0), NONE);
        Play.day(x, "." + "AB".repeat(20));
        same("all of forty", x.late(1), 40);
        same("the first of forty", x.late(0), 0);
        Play.day(x, "AB." + "AB");
        same("two of four", x.late(1), 2);
        same("the first of two", x.late(0), 2);
    }

    private static void doneEmptiesThePad() {
        due.sentence("The DAY is DONE (the PAD is empty then): ACTS.");
        GloveHours x = Play.court(EVERY_HOUR, 0);
        x.set(0, 23);
        Play.day(x, "Ar23Al22A!A>B05.");
        same("done()", x.done(), 5);
        same("told(0)", x.told(0), 0);
        same("fault()", x.fault(), NONE);
        same("say", x.say('A'), 1);
        same("fault() of it alone", x.fault(), 1);
        x.wipe();
        same("left", x.told(10), 22);
        same("right", x.told(11), 23);
        same("scandals", x.told(12), 0);
        same("scandals of B", x.told(22), 1);
        same("wear", x.told(123), 1);
        same("given", x.told(105), NONE);
        same("taken", x.told(205), 0);
        same("clock", x.told(2), 0);
        same("done() again", x.done(), 0);
        same("done() again: the clock stays", x.told(2), 0);
        same("done() again: the wear stays", x.told(123), 1);
    }

    private static void doneTellsActs() {
        due.sentence("(the PAD is empty then): ACTS");
        GloveHours x = Play.court(1, 1);
        same("of none", x.done(), 0);
        same("of one", Play.done(x, "."), 1);
        same("of four signs", Play.done(x, "Ar00"), 1);
        same("of five signs", Play.done(x, "B>A00A0"), -3);
        same("of a promise", Play.done(x, "Br00AB"), 2);
        same("of thirty", Play.done(x, "A0".repeat(30)), 30);
        same("of sixty", Play.done(x, ".".repeat(60)), 60);
        same("of twelve gifts", Play.done(Play.court(1, 0), "A>B00B>A00".repeat(6)), 12);
    }

    private static void nothingIsDoneButByDone() {
        due.sentence("DONE: it is so then.");
        GloveHours x = Play.court(hours(6), 0);
        Play.day(x, "Ar06A!A>B06.");
        x.judge(2);
        x.behind(0, 1);
        x.wear(1, 6);
        x.deed(0, 0);
        x.late(1);
        x.mended(0);
        same("told(106)", x.told(106), 0);
        same("told(206)", x.told(206), NONE);
        same("told(12)", x.told(12), 0);
        same("told(2)", x.told(2), 0);
        same("told(0)", x.told(0), 12);
        same("done()", x.done(), 4);
        same("told(106)", x.told(106), NONE);
        same("told(206)", x.told(206), 1);
        same("told(12)", x.told(12), 1);
        same("told(2)", x.told(2), 1);
        Play.day(x, "A0A!");
        same("done() of what can not be", x.done(), STATE);
        same("told(0) then", x.told(0), 4);
        same("judge(1) then", x.judge(1), 5);
        Play.day(x, "..Ax");
        same("done() of a fault", x.done(), NO);
        same("told(0) then", x.told(0), 4);
        same("told(2) then", x.told(2), 1);
    }

    private static void properIsNow() {
        due.sentence("PROPER: who is now, as bits.");
        GloveHours x = new GloveHours();
        same("nobody is there", x.proper(), 0);
        StringBuilder signs = new StringBuilder();
        for (int c = 0; c < 6; c++) {
            x.courtier(c, 1);
            same("bare", x.proper(), (1 << c) - 1);
            signs.setLength(0);
            Play.day(x, signs.append(Play.puts(c, 'r', 0)).append(Play.puts(c, 'l', 0)).toString());
            same("now, not behind the pad", x.proper(), (1 << c) - 1);
            x.done();
            same("one more", x.proper(), (2 << c) - 1);
        }
        Play.day(x, "A0");
        same("now, with a day on the pad", x.proper(), 63);
        Play.day(x, "Ax");
        same("with a fault", x.proper(), 63);
        x.set(0, 1);
        same("at another clock", x.proper(), 0);
        x.set(0, 0);
        x.leave(0);
        same("without A", x.proper(), 62);
        x.courtier(5, 1);
        same("F is bare anew", x.proper(), 30);
    }

    private static void hoursOfCan() {
        due.sentence("UNKNOWN: one of the set that is not there; OUTSIDE: h, what.");
        GloveHours x = Play.court(hours(0, 23));
        same("can(0, 1, 0)", x.can(0, 1, 0), 1);
        same("can(23, 1, 0)", x.can(23, 1, 0), 1);
        same("can(1, 1, 0)", x.can(1, 1, 0), 0);
        for (int hour : new int[] {-1, 24, 32, LOW, HIGH}) {
            for (int what = 0; what < 2; what++) {
                same("can(" + hour + ", 1, " + what + ")", x.can(hour, 1, what), OUTSIDE);
                same("can(" + hour + ", 0, " + what + ")", x.can(hour, 0, what), OUTSIDE);
                same("can(" + hour + ", 3, " + what + ")", x.can(hour, 3, what), UNKNOWN);
            }
        }
        for (int what : new int[] {-1, 2, LOW, HIGH}) {
            same("can(0, 1, " + what + ")", x.can(0, 1, what), OUTSIDE);
            same("can(0, 2, " + what + ")", x.can(0, 2, what), UNKNOWN);
        }
    }

    private static void setsOfCan() {
        due.sentence("one of the set that is not there");
        GloveHours x = Play.court(1, 1, 1, 1, 1, 1);
        same("can(0, 63, 0)", x.can(0, 63, 0), 6);
        for (int set : new int[] {64, 127, -1, LOW, HIGH, 1 << 24}) {
            same("can(0, " + set + ", 0)", x.can(0, set, 0), UNKNOWN);
        }
        for (int c = 0; c < 6; c++) {
            GloveHours y = Play.court(1, 1, 1, 1, 1, 1);
            y.leave(c);
            same("can(0, 63, 0) without " + c, y.can(0, 63, 0), UNKNOWN);
            same("can(0, who is gone, 0)", y.can(0, 1 << c, 0), UNKNOWN);
            same("can(0, all others, 0)", y.can(0, 63 ^ 1 << c, 0), 5);
        }
        GloveHours nobody = new GloveHours();
        same("can(0, 0, 0) of nobody", nobody.can(0, 0, 0), 0);
        same("can(0, 0, 1) of nobody", nobody.can(0, 0, 1), 0);
    }

    private static void howManyCan() {
        due.sentence("how many of the set could be PROPER, were CLOCK h, if PAIRS of h are given as one likes among all COURTIERS");
        for (int owners = 0; owners < 64; owners++) {
            GloveHours x = new GloveHours();
            for (int c = 0; c < 6; c++) {
                x.courtier(c, owners >> c & 1);
            }
            x.set(0, 17);
            for (int set = 0; set < 64; set++) {
                int most = Math.min(Integer.bitCount(set), Integer.bitCount(owners));
                same("can(0, " + set + ", 0) with owners " + owners, x.can(0, set, 0), most);
                same("can(0, " + set + ", 1) with owners " + owners, x.can(0, set, 1), fewestGiven(owners, set, most));
            }
        }
    }

    /** By trying whom the pairs could go to. */
    private static int fewestGiven(int owners, int set, int most) {
        int fewest = HIGH;
        for (int then = 0; then < 64; then++) {
            boolean asMany = Integer.bitCount(then) == Integer.bitCount(owners) && Integer.bitCount(then & set) == most;
            if (asMany) {
                fewest = Math.min(fewest, Integer.bitCount(then & ~owners));
            }
        }
        return fewest;
    }

    private static void fewestGiven() {
        due.sentence("the fewest PAIRS of h that must be given so that so many are");
        GloveHours x = Play.court(0, 0, 0, 1, 1, 1);
        same("none wanted", x.can(0, 0, 1), 0);
        same("none owned", x.can(1, 63, 1), 0);
        same("all own", x.can(0, 56, 1), 0);
        same("one of three", x.can(0, 1, 1), 1);
        same("three of three", x.can(0, 7, 1), 3);
        same("all want: nothing is won", x.can(0, 63, 1), 0);
        same("hands are nothing to it", Play.done(x, "Dr00Dl00"), 2);
        same("three of three, worn", x.can(0, 7, 1), 3);
        Play.day(x, "D>A00");
        same("now, not behind the pad", x.can(0, 7, 1), 3);
        Play.done(x, "D>A00");
        same("behind a gift", x.can(0, 7, 1), 2);
    }

    private static void likewiseRefused() {
        due.sentence("NO, STATE, likewise");
        List<ToIntFunction<GloveHours>> calls = List.of(x -> x.behind(0, 0), x -> x.behind(0, 1), x -> x.behind(0, 2),
                x -> x.behind(0, 3), x -> x.wear(0, 0), x -> x.wear(0, 1), x -> x.deed(0, 0), x -> x.deed(0, 1),
                x -> x.deed(0, 2), x -> x.deed(9, 0), x -> x.late(0), x -> x.late(1), x -> x.mended(0),
                x -> x.mended(1), GloveHours::done, x -> x.judge(2));
        for (ToIntFunction<GloveHours> call : calls) {
            String name = "call " + calls.indexOf(call) + " of ";
            GloveHours x = Play.court(1, 1);
            for (String signs : new String[] {"x", "A", "C!A", "A!Ar24", "Ar0"}) {
                same(name + signs, call.applyAsInt(Play.day(x, signs)), NO);
            }
            for (String signs : new String[] {"A!", "C0", "A0AB", "Ar00AA", "Ar00A!A!A>B00"}) {
                same(name + signs, call.applyAsInt(Play.day(x, signs)), STATE);
            }
            int answer = call.applyAsInt(Play.day(x, "Ar00A!"));
            due.holds(name + "Ar00A! is not refused so", answer != NO && answer != STATE);
            answer = call.applyAsInt(Play.day(x, ""));
            due.holds(name + "an empty day is not refused so", answer != NO && answer != STATE);
        }
    }
}
