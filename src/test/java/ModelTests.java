import java.util.Random;

/** Long runs of drawn calls, 512 on each new object, against the model; the draws are the same each time. */
public final class ModelTests {
    private static final int RUNS = 3000;
    private static final int CALLS = 512;
    // A step is at most six acts of ten signs, each wiped, a sign and the day's doing: fewer than 70 calls.
    private static final int LONGEST_STEP = 70;
    // 5 numbers of all, 3 and 24 of each of six courtiers.
    private static final int ALL_TOLD = 5 + 6 * 27;
    private static final int LONGEST_MATCH_RUN = 40;

    private final Due due;
    private final Random random;
    private final GloveHours x = new GloveHours();
    private final Model model = new Model();
    private final int run;
    private int calls;

    private ModelTests(Due due, int run) {
        this.due = due;
        this.run = run;
        random = new Random(run);
    }

    public static void main(String[] args) {
        Due due = new Due("ModelTests");
        for (int run = 0; run < RUNS && !due.failed(); run++) {
            new ModelTests(due, run).play();
        }
        due.end();
    }

    private int draw(int low, int high) {
        return low + random.nextInt(high - low + 1);
    }

    /** Mostly within, at times just outside of it, seldom far. */
    private int near(int low, int high) {
        int chance = random.nextInt(40);
        if (chance == 0) {
            return low - 1;
        }
        if (chance == 1) {
            return high + 1;
        }
        if (chance == 2) {
            return random.nextInt();
        }
        return chance < 6 ? low : chance < 9 ? high : draw(low, high);
    }

    private int hourSet() {
        int set = random.nextInt(1 << 24);
        for (int times = random.nextInt(4); times > 0; times--) {
            set &= random.nextInt(1 << 24);
        }
        // Few hours, so that gloves meet.
        if (run % 2 == 0) {
            set &= 0x80001F;
        }
        return random.nextInt(30) == 0 ? near(0, (1 << 24) - 1) : set;
    }

    private int hour() {
        return run % 2 == 0 ? new int[] {0, 1, 2, 3, 4, 23}[random.nextInt(6)] : draw(0, 23);
    }

    private void same(String call, long got, long want) {
        calls++;
        due.same("run " + run + ", call " + calls + ", " + call, got, want);
    }

    private void play() {
        for (int c = 0; c < 6; c++) {
            if (random.nextInt(4) > 0) {
                int pairs = hourSet();
                same("courtier(" + c + ", " + pairs + ")", x.courtier(c, pairs), model.courtier(c, pairs));
            }
        }
        // One run in three leaves room for all that can be told.
        int rest = run % 3 == 0 ? ALL_TOLD : 0;
        while (calls < CALLS - rest - LONGEST_STEP && !due.failed()) {
            step();
        }
        for (int i = 0; calls < CALLS; i++) {
            int what = i < rest ? tellable(i) : draw(-2, 700);
            same("told(" + what + ")", x.told(what), model.told(what));
        }
        due.same("calls on one object", calls, CALLS);
    }

    private static int tellable(int i) {
        if (i < 5) {
            return i;
        }
        int of = 1 + (i - 5) / 27;
        int what = (i - 5) % 27;
        return what < 3 ? 10 * of + what : 100 * of + what - 3;
    }

    private void step() {
        switch (random.nextInt(8)) {
            case 0:
                change();
                break;
            case 1:
            case 2:
            case 3:
                write(draw(1, 6));
                break;
            case 4:
            case 5:
                askOfDay();
                break;
            case 6:
                askOfCourt();
                break;
            default:
                askOfNumbers();
                break;
        }
    }

    private void say(String signs) {
        for (int sign : signs.chars().toArray()) {
            same("say(" + sign + ")", x.say(sign), model.say(sign));
        }
    }

    private void write(int acts) {
        for (int i = 0; i < acts; i++) {
            char one = (char) ('A' + random.nextInt(6));
            char two = (char) ('A' + random.nextInt(6));
            String hour = String.format("%02d", hour());
            String[] ways = {".", one + "!", one + "!", one + "0", one + "r" + hour, one + "l" + hour,
                one + "r" + hour + one + "l" + hour + one + "!", "" + one + two, one + ">" + two + hour};
            say(ways[random.nextInt(ways.length)]);
            // Most acts that can not be go at once, so that days get long.
            if (model.judge(0) >= 0 && random.nextInt(20) > 0) {
                same("wipe()", x.wipe(), model.wipe());
            }
        }
        if (random.nextInt(30) == 0) {
            int sign = near(33, 126);
            same("say(" + sign + ")", x.say(sign), model.say(sign));
        }
        if (random.nextInt(3) == 0) {
            same("done()", x.done(), model.done());
        }
    }

    private void change() {
        int a = near(0, 5);
        int b = hourSet();
        switch (random.nextInt(8)) {
            case 0:
                same("courtier(" + a + ", " + b + ")", x.courtier(a, b), model.courtier(a, b));
                break;
            case 1:
                same("leave(" + a + ")", x.leave(a), model.leave(a));
                break;
            case 2:
                b = near(0, 1);
                a = b == 0 ? near(0, 23) : near(1, random.nextBoolean() ? 4 : 20);
                same("set(" + b + ", " + a + ")", x.set(b, a), model.set(b, a));
                break;
            case 3:
                a = near(0, 23);
                boolean owned = random.nextBoolean();
                same("seen(" + a + ", " + owned + ")", x.seen(a, owned), model.seen(a, owned));
                break;
            case 4:
                same("forget()", x.forget(), model.forget());
                break;
            case 5:
                a = near(0, 1);
                same("image(" + a + ")", x.image(a), model.image(a));
                break;
            case 6:
                a = near(0, 1);
                same("restore(" + a + ")", x.restore(a), model.restore(a));
                break;
            default:
                same("wipe()", x.wipe(), model.wipe());
                break;
        }
    }

    private void askOfDay() {
        int a = near(0, 5);
        int b = near(0, 23);
        int what = near(0, 3);
        int few = near(0, 1);
        same("fault()", x.fault(), model.fault());
        same("judge(" + what + ")", x.judge(what), model.judge(what));
        same("behind(" + a + ", " + what + ")", x.behind(a, what), model.behind(a, what));
        same("wear(" + a + ", " + b + ")", x.wear(a, b), model.wear(a, b));
        same("deed(" + a + ", " + what + ")", x.deed(a, what), model.deed(a, what));
        same("late(" + few + ")", x.late(few), model.late(few));
        same("mended(" + few + ")", x.mended(few), model.mended(few));
        same("proper()", x.proper(), model.proper());
    }

    private void askOfCourt() {
        int a = near(0, 5);
        int hour = random.nextBoolean() ? hour() : near(0, 23);
        int few = near(0, 1);
        int set = random.nextInt(10) == 0 ? near(0, 63) : random.nextInt(64) & model.told(1);
        int hours = hourSet();
        int v = near(1, random.nextBoolean() ? 3 : 24);
        int candles = near(0, random.nextBoolean() ? 20 : 999);
        same("can(" + hour + ", " + set + ", " + few + ")", x.can(hour, set, few), model.can(hour, set, few));
        same("all(" + hours + ", " + few + ")", x.all(hours, few), model.all(hours, few));
        same("wore()", x.wore(), model.wore());
        same("ask(" + few + ")", x.ask(few), model.ask(few));
        same("vespers(" + a + ", " + candles + ")", x.vespers(a, candles), model.vespers(a, candles));
        int first = run < LONGEST_MATCH_RUN ? -3 : draw(-2, 23);
        int last = run < LONGEST_MATCH_RUN ? 25 : first + 2;
        for (int of = first; of <= last; of++) {
            same("match(" + hours + ", " + v + ", " + of + ")", x.match(hours, v, of), model.match(hours, v, of));
        }
    }

    private void askOfNumbers() {
        int seed = near(0, 9999);
        int m = near(1, 99);
        int what = near(0, 2);
        same("reign(" + seed + ", " + m + ", " + what + ")", x.reign(seed, m, what), model.reign(seed, m, what));
        if (random.nextInt(4) == 0) {
            countries();
        }
        int n = near(0, 9);
        int k = near(0, 12);
        int t = near(0, 10);
        int few = near(0, 1);
        int part = near(0, 1);
        if (random.nextInt(4) == 0) {
            same("tear(" + n + ", " + k + ", " + t + ", " + few + ", " + part + ")", x.tear(n, k, t, few, part),
                    model.tear(n, k, t, few, part));
        }
        what = draw(0, 700);
        same("told(" + what + ")", x.told(what), model.told(what));
    }

    private void countries() {
        int most = random.nextBoolean() ? 12 : 999;
        int a = random.nextInt(9) == 0 ? near(1, 999) : draw(1, most);
        int b = random.nextInt(9) == 0 ? near(1, 999) : draw(1, most);
        int x0 = random.nextInt(9) == 0 ? near(0, 998) : draw(0, Math.max(0, Math.min(998, a - 1)));
        int y0 = random.nextInt(9) == 0 ? near(0, 998) : draw(0, Math.max(0, Math.min(998, b - 1)));
        int m = random.nextBoolean() ? near(0, 999999) : draw(0, 2000);
        String told = a + ", " + x0 + ", " + b + ", " + y0;
        same("strikes(" + told + ")", x.strikes(a, x0, b, y0), model.strikes(a, x0, b, y0));
        same("often(" + told + ", " + m + ")", x.often(a, x0, b, y0, m), model.often(a, x0, b, y0, m));
    }
}
