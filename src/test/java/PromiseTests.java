/** For each promise: ordinary inputs, the edges that the document names, wrong inputs. */
public final class PromiseTests {
    private static final int UNKNOWN = -1, OUTSIDE = -2, STATE = -3, FULL = -4, NO = -5, NONE = -6;
    private static final int EVERY_HOUR = 0xFFFFFF;
    private static final int LOW = Integer.MIN_VALUE, HIGH = Integer.MAX_VALUE;
    private static final Due due = new Due("PromiseTests");

    private PromiseTests() {
    }

    public static void main(String[] args) {
        newObject();
        courtier();
        leave();
        set();
        say();
        wipe();
        fault();
        judge();
        judgeReasons();
        behind();
        wear();
        deed();
        late();
        done();
        doneTears();
        proper();
        can();
        match();
        all();
        mended();
        strikes();
        often();
        seen();
        forget();
        wore();
        ask();
        tear();
        vespers();
        reign();
        image();
        restore();
        told();
        constants();
        due.end();
    }

    private static int hours(int... hours) {
        return Play.hours(hours);
    }

    private static void same(String call, long got, long want) {
        due.same(call, got, want);
    }

    /** Says a day anew. */
    private static void day(GloveHours x, String signs) {
        x.wipe();
        for (int i = 0; i < signs.length(); i++) {
            same("say in " + signs, x.say(signs.charAt(i)), i + 1);
        }
    }

    private static void doDay(GloveHours x, String signs, int acts) {
        day(x, signs);
        same("done of " + signs, x.done(), acts);
    }

    // A owns 5, 6, 7; B owns 6, 8; D owns 0, 23; C, E, F are not there. CLOCK is 6.
    private static GloveHours court() {
        GloveHours x = new GloveHours();
        x.courtier(0, hours(5, 6, 7));
        x.courtier(1, hours(6, 8));
        x.courtier(3, hours(0, 23));
        x.set(0, 6);
        return x;
    }

    private static final String FAULTY = "Ax", STOPPED = "C!";

    private static void newObject() {
        GloveHours x = new GloveHours();
        same("1 told(0)", x.told(0), 0);
        same("1 told(1)", x.told(1), 0);
        same("1 told(2)", x.told(2), 0);
        same("1 told(3)", x.told(3), 9);
        same("1 told(4)", x.told(4), 0);
        for (int c = 0; c < 6; c++) {
            same("1 told(10..)", x.told(10 * (1 + c)), OUTSIDE);
            same("1 told(100..)", x.told(100 * (1 + c)), OUTSIDE);
            same("1 behind", x.behind(c, 0), UNKNOWN);
        }
        same("1 fault", x.fault(), NONE);
        same("1 restore(0)", x.restore(0), STATE);
        same("1 restore(1)", x.restore(1), STATE);
        same("1 proper", x.proper(), 0);
        same("1 wore", x.wore(), 0);
        GloveHours other = new GloveHours();
        x.courtier(0, 1);
        x.say('A');
        x.seen(1, true);
        same("1 another object's courtiers", other.told(1), 0);
        same("1 another object's signs", other.told(0), 0);
        same("1 another object's sights", other.told(4), 0);
    }

    private static void courtier() {
        GloveHours x = new GloveHours();
        same("2 courtier(5)", x.courtier(5, EVERY_HOUR), 1);
        same("2 courtier(0)", x.courtier(0, 0), 2);
        same("2 pairs", x.behind(5, 3), EVERY_HOUR);
        same("2 no pairs", x.behind(0, 3), 0);
        same("2 left", x.told(60), 24);
        same("2 right", x.told(61), 24);
        same("2 scandals", x.told(62), 0);
        same("2 wear at first", x.told(623), 0);
        doDay(x, "Fr00F!Fr03Fl04F!.", 6);
        same("2 before: wear of hour 0", x.told(600), 1);
        same("2 before: wear", x.told(603), 1);
        same("2 before: scandals", x.told(62), 1);
        same("2 anew", x.courtier(5, hours(3, 4)), 2);
        same("2 anew: pairs", x.behind(5, 3), hours(3, 4));
        same("2 anew: wear", x.told(603), 0);
        x.courtier(5, hours(0, 3, 4));
        same("2 anew: wear of hour 0", x.told(600), 0);
        x.courtier(5, hours(3, 4));
        same("2 anew: left", x.told(60), 24);
        same("2 anew: right", x.told(61), 24);
        same("2 anew: scandals", x.told(62), 0);
        same("2 anew: the other stays", x.told(12), 1);
        same("2 courtier(-1)", x.courtier(-1, 1), UNKNOWN);
        same("2 courtier(6)", x.courtier(6, 1), UNKNOWN);
        same("2 UNKNOWN before OUTSIDE", x.courtier(6, -1), UNKNOWN);
        same("2 courtier(LOW)", x.courtier(LOW, LOW), UNKNOWN);
        same("2 pairs -1", x.courtier(1, -1), OUTSIDE);
        same("2 pairs too many", x.courtier(1, EVERY_HOUR + 1), OUTSIDE);
        same("2 pairs LOW", x.courtier(5, LOW), OUTSIDE);
        same("2 refused: nothing changed", x.told(1), 33);
        same("2 refused: his pairs stay", x.behind(5, 3), hours(3, 4));
    }

    private static void leave() {
        GloveHours x = court();
        same("3 leave(0)", x.leave(0), 2);
        same("3 told(1)", x.told(1), 10);
        same("3 again", x.leave(0), UNKNOWN);
        same("3 leave(-1)", x.leave(-1), UNKNOWN);
        same("3 leave(6)", x.leave(6), UNKNOWN);
        same("3 leave(32)", x.leave(33), UNKNOWN);
        same("3 his pairs are gone", x.all(hours(5), 0), NONE);
        same("3 his pairs can not be given", x.can(5, 2, 0), 0);
        same("3 his pairs do no deeds", x.match(hours(0, 5, 7), 24, -1), 1);
        same("3 vespers without him", x.vespers(3, 4), 2);
        same("3 wore without him", x.wore(), 10);
        same("3 the last but one", x.leave(3), 1);
        same("3 the last", x.leave(1), 0);
        same("3 back again", x.courtier(0, 1), 1);
        same("3 back again: bare", x.told(11), 24);
    }

    private static void set() {
        GloveHours x = new GloveHours();
        same("4 clock", x.set(0, 23), 0);
        same("4 clock again", x.set(0, 0), 23);
        same("4 tears", x.set(1, 1), 9);
        same("4 tears again", x.set(1, 20), 1);
        same("4 tears are kept", x.told(3), 20);
        same("4 clock is kept", x.told(2), 0);
        same("4 clock -1", x.set(0, -1), OUTSIDE);
        same("4 clock 24", x.set(0, 24), OUTSIDE);
        same("4 tears 0", x.set(1, 0), OUTSIDE);
        same("4 tears 21", x.set(1, 21), OUTSIDE);
        same("4 which 2", x.set(2, 1), OUTSIDE);
        same("4 which -1", x.set(-1, 1), OUTSIDE);
        same("4 refused: clock", x.told(2), 0);
        same("4 refused: tears", x.told(3), 20);
    }

    private static void say() {
        GloveHours x = new GloveHours();
        same("5 say(32)", x.say(32), OUTSIDE);
        same("5 say(127)", x.say(127), OUTSIDE);
        same("5 say(-65)", x.say(-65), OUTSIDE);
        same("5 say(65 + 65536)", x.say(65 + 65536), OUTSIDE);
        same("5 say(33)", x.say(33), 1);
        same("5 say(126)", x.say(126), 2);
        for (int i = 3; i <= 60; i++) {
            same("5 say " + i, x.say('.'), i);
        }
        same("5 full", x.say('.'), FULL);
        same("5 OUTSIDE before FULL", x.say(32), OUTSIDE);
        same("5 still 60", x.told(0), 60);
        x.wipe();
        for (int i = 1; i <= 60; i++) {
            x.say('.');
        }
        same("5 sixty signs are read", x.done(), 60);
    }

    private static void wipe() {
        GloveHours x = court();
        same("6 empty", x.wipe(), 0);
        day(x, "A!x");
        same("6 three", x.wipe(), 3);
        same("6 none", x.wipe(), 0);
        same("6 told", x.told(0), 0);
        same("6 no fault", x.fault(), NONE);
        same("6 all else stays", x.told(1), 11);
    }

    private static void isFault(String signs, int place) {
        GloveHours x = new GloveHours();
        day(x, signs);
        same("7 fault of " + signs, x.fault(), place);
    }

    private static void fault() {
        isFault("", NONE);
        isFault(".", NONE);
        isFault("..A!", NONE);
        isFault("A0B!CDEr00Fl23A>B19.", NONE);
        isFault("AA", NONE);
        isFault("FF", NONE);
        isFault("A>A00", NONE);
        isFault("A", 1);
        isFault("Ar", 2);
        isFault("Al0", 3);
        isFault("Al2", 3);
        isFault("A>", 2);
        isFault("A>F", 3);
        isFault("A>F2", 4);
        isFault(".A", 2);
        isFault("G!", 0);
        isFault("@!", 0);
        isFault("a!", 0);
        isFault("!", 0);
        isFault("0", 0);
        isFault("AG", 1);
        isFault("A@", 1);
        isFault("A.", 1);
        isFault("A1", 1);
        isFault("AR00", 1);
        isFault("Ar3", 2);
        isFault("Ar/", 2);
        isFault("Ar24", 3);
        isFault("Ar2/", 3);
        isFault("Ar20", NONE);
        isFault("Ar23", NONE);
        isFault("Ar19", NONE);
        isFault("Ar09", NONE);
        isFault("Ar1:", 3);
        isFault("Ar1/", 3);
        isFault("Ar0:", 3);
        isFault("ArA0", 2);
        isFault("A>G", 2);
        isFault("A>000", 2);
        isFault("A>B3", 3);
        isFault("A>B24", 4);
        isFault("A!A!A!x", 6);
        isFault("AxA", 1);
        GloveHours x = new GloveHours();
        x.say('A');
        same("7 more must come", x.fault(), 1);
        x.say('!');
        same("7 it came", x.fault(), NONE);
        x.say('!');
        same("7 a sign more", x.fault(), 2);
    }

    private static void judged(GloveHours x, String signs, int act, int why) {
        day(x, signs);
        same("8 judge(0) of " + signs, x.judge(0), act);
        same("8 judge(1) of " + signs, x.judge(1), why);
        if (act != NONE) {
            same("8 judge(2) of " + signs, x.judge(2), STATE);
        }
    }

    private static void judge() {
        GloveHours x = court();
        same("8 empty 0", x.judge(0), NONE);
        same("8 empty 1", x.judge(1), NONE);
        same("8 empty 2", x.judge(2), 0);
        judged(x, "Ar06Br06A!AB.B!A0", NONE, NONE);
        same("8 deeds", x.judge(2), 4);
        same("8 what -1", x.judge(-1), OUTSIDE);
        same("8 what 3", x.judge(3), OUTSIDE);
        day(x, FAULTY);
        same("8 OUTSIDE before NO", x.judge(3), OUTSIDE);
        for (int what = 0; what < 3; what++) {
            same("8 NO", x.judge(what), NO);
        }
        day(x, "C!Ax");
        same("8 NO before STATE", x.judge(2), NO);
        day(x, "C!");
        same("8 OUTSIDE before STATE", x.judge(3), OUTSIDE);
        judged(x, "Ar06..A!E0", 4, 1);
        same("8 nothing is done", x.told(11), 24);
        same("8 the pad stays", x.told(0), 10);
        judged(x, "Ar06Ar06", NONE, NONE);
        same("8 what was stopped is forgotten", x.judge(2), 0);
        String thirty = "AB".repeat(28);
        x.set(1, 20);
        x.courtier(4, EVERY_HOUR);
        judged(x, "Ar06" + thirty, 1, 5);
        doDay(x, "Ar06Br06", 2);
        judged(x, "AB".repeat(20), NONE, NONE);
        same("8 both pairs tear at 20", x.judge(2), 40);
        judged(x, "AB".repeat(21), 20, 5);
    }

    private static void judgeReasons() {
        GloveHours x = court();
        judged(x, "Cr06", 0, 1);
        judged(x, "Cl06", 0, 1);
        judged(x, "C0", 0, 1);
        judged(x, "C!", 0, 1);
        judged(x, "CA", 0, 1);
        judged(x, "AC", 0, 1);
        judged(x, "CC", 0, 1);
        judged(x, "C>A06", 0, 1);
        judged(x, "A>C06", 0, 1);
        judged(x, "C>C06", 0, 1);
        judged(x, "A>C01", 0, 1);
        judged(x, "AA", 0, 2);
        judged(x, "A>A06", 0, 2);
        judged(x, "A>A01", 0, 2);
        judged(x, "Ar06AA", 1, 2);
        judged(x, "Ar08", 0, 3);
        judged(x, "Al08", 0, 3);
        judged(x, "A>B08", 0, 3);
        judged(x, "A>B01", 0, 3);
        judged(x, "A>B06", 0, 4);
        judged(x, "A>B05B>A05A>B06", 2, 4);
        judged(x, "A!", 0, 5);
        judged(x, "Al06A!", 1, 5);
        judged(x, "AB", 0, 5);
        judged(x, "Ar06AB", 1, 5);
        judged(x, "Br06AB", 1, 5);
        judged(x, "Ar07Br06AB", 2, 6);
        judged(x, "Ar07Br06BA", 2, 6);
        judged(x, "Ar06Br06BA", NONE, NONE);
        judged(x, "A0A0.", NONE, NONE);
        judged(x, "Ar06A0A!", 2, 5);
        judged(x, "Ar05A>B05A!", 2, 5);
        judged(x, "Ar05A>B05Ar05", 2, 3);
        judged(x, "Ar05A>D05Ar06A!D!", 4, 5);
    }

    private static void refusalsOfDay(String name, GloveHours x, java.util.function.IntSupplier call) {
        day(x, FAULTY);
        same(name + " NO", call.getAsInt(), NO);
        day(x, STOPPED + FAULTY);
        same(name + " NO before STATE", call.getAsInt(), NO);
        day(x, STOPPED);
        same(name + " STATE", call.getAsInt(), STATE);
        day(x, "A0.B!");
        same(name + " STATE by the last act", call.getAsInt(), STATE);
        same(name + " refused: the pad stays", x.told(0), 5);
        same(name + " refused: the clock stays", x.told(2), 6);
        x.wipe();
    }

    private static void behind() {
        GloveHours x = court();
        day(x, "Ar06Al05Bl06Br08.D>A23");
        same("9 left", x.behind(0, 0), 5);
        same("9 right", x.behind(0, 1), 6);
        same("9 left of B", x.behind(1, 0), 6);
        same("9 right of B", x.behind(1, 1), 8);
        same("9 scandals: proper", x.behind(0, 2), 0);
        same("9 scandals: not proper", x.behind(1, 2), 1);
        same("9 pairs given", x.behind(0, 3), hours(5, 6, 7, 23));
        same("9 pairs left over", x.behind(3, 3), hours(0));
        same("9 nothing is done", x.told(12), 0);
        same("9 nothing is done: hands", x.told(10), 24);
        same("9 UNKNOWN", x.behind(2, 0), UNKNOWN);
        same("9 UNKNOWN 6", x.behind(6, 0), UNKNOWN);
        same("9 UNKNOWN -1", x.behind(-1, 0), UNKNOWN);
        same("9 UNKNOWN before OUTSIDE", x.behind(2, 4), UNKNOWN);
        same("9 OUTSIDE", x.behind(0, 4), OUTSIDE);
        same("9 OUTSIDE -1", x.behind(0, -1), OUTSIDE);
        day(x, "Ar06Al06A>D06");
        same("9 both hands are bare behind a gift, left", x.behind(0, 0), 24);
        same("9 both hands are bare behind a gift, right", x.behind(0, 1), 24);
        same("9 the taker's hands stay", x.behind(3, 1), 24);
        day(x, "Ar06Al05A>D06");
        same("9 the other glove stays on", x.behind(0, 0), 5);
        day(x, "Ar06Al05A0");
        same("9 0 bares the left", x.behind(0, 0), 24);
        same("9 0 bares the right", x.behind(0, 1), 24);
        refusalsOfDay("9", x, () -> x.behind(0, 3));
        day(x, FAULTY);
        same("9 UNKNOWN before NO", x.behind(2, 0), UNKNOWN);
        same("9 OUTSIDE before NO", x.behind(0, 9), OUTSIDE);
        day(x, ".".repeat(60));
        for (int i = 0; i < 2; i++) {
            x.done();
            day(x, ".".repeat(60));
        }
        same("9 scandals: 99 at most", x.behind(0, 2), 99);
    }

    private static void wear() {
        GloveHours x = court();
        day(x, "Ar06A!A!A>D06");
        same("10 of no deed", x.wear(0, 5), 0);
        same("10 given with its wear", x.wear(3, 6), 2);
        same("10 given away", x.wear(0, 6), NONE);
        same("10 never owned", x.wear(0, 23), NONE);
        same("10 hour 0", x.wear(3, 0), 0);
        same("10 hour 23", x.wear(3, 23), 0);
        day(x, "Ar06Br06AB");
        same("10 a promise wears the first one's", x.wear(0, 6), 1);
        same("10 a promise wears the other one's", x.wear(1, 6), 1);
        same("10 nothing is done", x.told(106), 0);
        same("10 UNKNOWN", x.wear(4, 0), UNKNOWN);
        same("10 UNKNOWN before OUTSIDE", x.wear(4, 24), UNKNOWN);
        same("10 OUTSIDE 24", x.wear(0, 24), OUTSIDE);
        same("10 OUTSIDE -1", x.wear(0, -1), OUTSIDE);
        day(x, "Ar06" + "A!".repeat(8));
        same("10 eight of nine", x.wear(0, 6), 8);
        day(x, "Ar06" + "A!".repeat(9));
        same("10 torn", x.wear(0, 6), NONE);
        refusalsOfDay("10", x, () -> x.wear(0, 5));
        day(x, FAULTY);
        same("10 UNKNOWN before NO", x.wear(2, 0), UNKNOWN);
        same("10 OUTSIDE before NO", x.wear(0, 24), OUTSIDE);
    }

    private static void deed() {
        GloveHours x = court();
        day(x, "Ar06A!Br06.BA.D0Dr00D!");
        same("11 hour 0", x.deed(0, 0), 6);
        same("11 clock 0", x.deed(0, 1), 6);
        same("11 whose 0", x.deed(0, 2), 0);
        same("11 hour 1", x.deed(1, 0), 6);
        same("11 clock 1", x.deed(1, 1), 7);
        same("11 the first one's first", x.deed(1, 2), 1);
        same("11 the other one's then", x.deed(2, 2), 0);
        same("11 hour 3", x.deed(3, 0), 0);
        same("11 clock 3", x.deed(3, 1), 8);
        same("11 whose 3", x.deed(3, 2), 3);
        same("11 UNKNOWN 4", x.deed(4, 0), UNKNOWN);
        same("11 UNKNOWN -1", x.deed(-1, 0), UNKNOWN);
        same("11 UNKNOWN HIGH", x.deed(HIGH, 2), UNKNOWN);
        same("11 OUTSIDE", x.deed(0, 3), OUTSIDE);
        same("11 OUTSIDE -1", x.deed(0, -1), OUTSIDE);
        same("11 OUTSIDE before UNKNOWN", x.deed(9, 3), OUTSIDE);
        refusalsOfDay("11", x, () -> x.deed(0, 0));
        refusalsOfDay("11, no such deed,", x, () -> x.deed(99, 0));
        day(x, FAULTY);
        same("11 OUTSIDE before NO", x.deed(0, 3), OUTSIDE);
        x.wipe();
        same("11 empty", x.deed(0, 0), UNKNOWN);
        day(x, "Ar06A!A>D06Dr06D!");
        same("11 a lent pair's deed is of who wears it", x.deed(1, 2), 3);
        day(x, "Ar06A!A0");
        same("11 its hour stays behind the act", x.deed(0, 0), 6);
        x.set(1, 1);
        same("11 its hour stays when it tears", x.deed(0, 0), 6);
    }

    private static void late() {
        GloveHours x = court();
        same("12 empty", x.late(0), NONE);
        same("12 empty, how many", x.late(1), 0);
        day(x, "Ar06A!A!.A!Ar07A!Ar05A!");
        same("12 the first", x.late(0), 2);
        same("12 how many", x.late(1), 2);
        day(x, "Ar06A!");
        same("12 none", x.late(0), NONE);
        same("12 none, how many", x.late(1), 0);
        day(x, "Ar07A!");
        same("12 an early one is out of its time, too", x.late(0), 0);
        day(x, "Ar06Br06.AB");
        same("12 a promise is two", x.late(1), 2);
        same("12 OUTSIDE", x.late(2), OUTSIDE);
        same("12 OUTSIDE -1", x.late(-1), OUTSIDE);
        refusalsOfDay("12", x, () -> x.late(0));
        refusalsOfDay("12, how many,", x, () -> x.late(1));
        day(x, FAULTY);
        same("12 OUTSIDE before NO", x.late(2), OUTSIDE);
    }

    private static void done() {
        GloveHours x = court();
        same("13 empty", x.done(), 0);
        day(x, "Ar06Al05A!.A>D07");
        same("13 acts", x.done(), 5);
        same("13 the pad is empty", x.told(0), 0);
        same("13 left", x.told(10), 5);
        same("13 right", x.told(11), 6);
        same("13 wear", x.told(106), 1);
        same("13 clock", x.told(2), 7);
        same("13 proper: no scandal", x.told(12), 0);
        same("13 scandal", x.told(22), 1);
        same("13 given", x.told(107), NONE);
        same("13 taken", x.told(407), 0);
        GloveHours z = court();
        refusalsOfDay("13", z, z::done);
        GloveHours y = court();
        day(y, STOPPED);
        same("13 STATE", y.done(), STATE);
        same("13 refused: the pad stays", y.told(0), 2);
        day(y, "A0.C!");
        same("13 STATE at the end", y.done(), STATE);
        same("13 refused: the clock stays", y.told(2), 6);
        day(y, FAULTY);
        same("13 NO", y.done(), NO);
        same("13 refused: NO, the pad stays", y.told(0), 2);
        y.set(0, 23);
        doDay(y, ".", 1);
        same("13 behind 23 0", y.told(2), 0);
        y.set(0, 22);
        doDay(y, ".", 1);
        same("13 behind 22 23", y.told(2), 23);
    }

    private static void doneTears() {
        GloveHours x = court();
        doDay(x, "Ar06Al06A!A!A!", 5);
        x.set(1, 2);
        same("13 told lower: it is there yet", x.told(106), 3);
        same("13 told lower: worn yet", x.told(11), 6);
        doDay(x, "A>D06Dr06", 2);
        same("13 told lower: it can be given", x.told(406), 3);
        doDay(x, "Dl06D!", 2);
        same("13 torn by its next deed", x.told(406), NONE);
        same("13 torn: right is bare", x.told(41), 24);
        same("13 torn: left is bare", x.told(40), 24);
        x.set(1, 1);
        doDay(x, "Ar07Al05A!", 3);
        same("13 torn at once", x.told(107), NONE);
        same("13 the other glove stays", x.told(10), 5);
        same("13 the right is bare", x.told(11), 24);
        x.courtier(2, hours(8));
        doDay(x, "Br08Cr08BC", 3);
        same("13 a promise tears both, the first", x.told(208), NONE);
        same("13 a promise tears both, the other", x.told(308), NONE);
        x.courtier(0, hours(5, 6, 7));
        doDay(x, "Ar05Al05", 2);
        x.courtier(1, hours(5));
        doDay(x, "Br05B!", 2);
        same("13 torn: another's gloves of the hour stay", x.told(10), 5);
    }

    private static void proper() {
        GloveHours x = court();
        x.courtier(2, EVERY_HOUR);
        same("14 all bare", x.proper(), 0);
        doDay(x, "Ar06Al05Br06Bl06Cr06Cl07", 6);
        same("14 of the clock or ahead of it", x.proper(), 3);
        doDay(x, "C0Cr06", 2);
        same("14 a bare left", x.proper(), 3);
        doDay(x, "Cl05Cr05", 2);
        same("14 both late", x.proper(), 3);
        day(x, "A0");
        same("14 now, not behind the pad", x.proper(), 3);
        day(x, FAULTY);
        same("14 with a fault, too", x.proper(), 3);
        x.set(0, 7);
        same("14 another clock", x.proper(), 0);
        x.wipe();
        x.set(0, 0);
        doDay(x, "Dr00Dl23Cr00Cl01", 4);
        same("14 ahead of 0 is 23", x.proper(), 8);
        x.set(0, 23);
        same("14 ahead of 23 is 22", x.proper(), 0);
        doDay(x, "Cr23Cl22", 2);
        same("14 F's 22", x.proper(), 4);
        x.leave(2);
        same("14 who is gone", x.proper(), 0);
    }

    private static void can() {
        GloveHours x = court();
        x.courtier(5, hours(6));
        same("15 all of three", x.can(6, 11, 0), 3);
        same("15 one is to be given", x.can(6, 11, 1), 1);
        same("15 fewer pairs than wanted", x.can(6, 8 | 1, 0), 2);
        same("15 fewer pairs than wanted, given", x.can(6, 9, 1), 1);
        same("15 four want three", x.can(6, 43, 0), 3);
        same("15 four want three, none given", x.can(6, 43, 1), 0);
        same("15 one pair for two", x.can(5, 10, 0), 1);
        same("15 one pair for two, given", x.can(5, 10, 1), 1);
        same("15 no pairs", x.can(1, 11, 0), 0);
        same("15 no pairs, given", x.can(1, 11, 1), 0);
        same("15 empty set", x.can(6, 0, 0), 0);
        same("15 empty set, given", x.can(6, 0, 1), 0);
        same("15 UNKNOWN", x.can(6, 4, 0), UNKNOWN);
        same("15 UNKNOWN 64", x.can(6, 64, 0), UNKNOWN);
        same("15 UNKNOWN -1", x.can(6, -1, 0), UNKNOWN);
        same("15 UNKNOWN LOW", x.can(6, LOW, 0), UNKNOWN);
        same("15 UNKNOWN before OUTSIDE", x.can(24, 4, 0), UNKNOWN);
        same("15 h 24", x.can(24, 1, 0), OUTSIDE);
        same("15 h -1", x.can(-1, 1, 0), OUTSIDE);
        same("15 what 2", x.can(6, 1, 2), OUTSIDE);
        same("15 what -1", x.can(6, 1, -1), OUTSIDE);
        same("15 h 0", x.can(0, 8, 0), 1);
        same("15 h 23", x.can(23, 1, 1), 1);
    }

    private static void match() {
        GloveHours x = new GloveHours();
        x.courtier(0, hours(0, 1, 2));
        x.courtier(1, hours(0));
        x.courtier(4, hours(2, 3, 23));
        same("16 one each", x.match(hours(0, 1, 2), 1, -1), 3);
        same("16 not the least, so that all are done", x.match(hours(0, 1, 2), 1, 0), 1);
        same("16 then the least", x.match(hours(0, 1, 2), 1, 1), 0);
        same("16 the last", x.match(hours(0, 1, 2), 1, 2), 4);
        same("16 the least courtier first", x.match(hours(0, 2), 1, 0), 0);
        same("16 so the other", x.match(hours(0, 2), 1, 2), 4);
        same("16 two each", x.match(hours(0, 1, 2, 3), 2, -1), 4);
        same("16 two each, 2", x.match(hours(0, 1, 2, 3), 2, 2), 4);
        same("16 three each, 2", x.match(hours(0, 1, 2, 3), 3, 2), 0);
        same("16 too many", x.match(hours(2, 3, 23), 1, -1), 2);
        same("16 too many: the least hour is done", x.match(hours(2, 3, 23), 1, 2), 0);
        same("16 too many: then the next", x.match(hours(2, 3, 23), 1, 3), 4);
        same("16 too many: none is left", x.match(hours(2, 3, 23), 1, 23), NONE);
        same("16 nobody owns it", x.match(hours(7, 8), 3, 8), NONE);
        same("16 nobody owns it, how many", x.match(hours(7, 8), 3, -1), 0);
        same("16 empty", x.match(0, 1, -1), 0);
        same("16 all hours", x.match(EVERY_HOUR, 24, -1), 5);
        same("16 v 24, 23", x.match(EVERY_HOUR, 24, 23), 4);
        same("16 hours -1", x.match(-1, 1, -1), OUTSIDE);
        same("16 hours too many", x.match(EVERY_HOUR + 1, 1, -1), OUTSIDE);
        same("16 v 0", x.match(1, 0, -1), OUTSIDE);
        same("16 v 25", x.match(1, 25, -1), OUTSIDE);
        same("16 an hour not of the set", x.match(1, 1, 1), UNKNOWN);
        same("16 hour 24", x.match(EVERY_HOUR, 1, 24), UNKNOWN);
        same("16 hour -2", x.match(EVERY_HOUR, 1, -2), UNKNOWN);
        same("16 hour 32", x.match(1, 1, 32), UNKNOWN);
        same("16 hour LOW", x.match(1, 1, LOW), UNKNOWN);
        same("16 OUTSIDE before UNKNOWN, hours", x.match(-1, 1, 24), OUTSIDE);
        same("16 OUTSIDE before UNKNOWN, v", x.match(1, 0, 24), OUTSIDE);
        same("16 empty, an hour", x.match(0, 1, 0), UNKNOWN);
        GloveHours y = new GloveHours();
        y.courtier(0, hours(0, 1));
        same("16 A alone does v at most", y.match(hours(0, 1), 1, -1), 1);
        same("16 A alone, the least", y.match(hours(0, 1), 1, 0), 0);
        same("16 A alone, the next", y.match(hours(0, 1), 1, 1), NONE);
        y.courtier(5, hours(0, 1, 2));
        same("16 F behind A", y.match(hours(0, 1, 2), 1, 1), 5);
        same("16 F is at v", y.match(hours(0, 1, 2), 1, 2), NONE);
        same("16 F does two", y.match(hours(0, 1, 2), 2, 1), 0);
        doDay(x, "Ar00.", 2);
        same("16 hands and clock are nothing to it", x.match(hours(0, 1, 2), 1, 0), 1);
    }

    private static void all() {
        GloveHours x = new GloveHours();
        x.courtier(0, hours(0, 1));
        x.courtier(1, hours(1, 2));
        x.courtier(2, hours(2, 3));
        x.courtier(5, hours(0, 1, 3));
        same("17 one", x.all(hours(0, 1), 0), 1);
        same("17 one, the least", x.all(hours(0, 1), 1), 1);
        same("17 one: F", x.all(hours(0, 3), 1), 32);
        same("17 two", x.all(hours(0, 1, 2, 3), 0), 2);
        same("17 two: A and C, least as bits", x.all(hours(0, 1, 2, 3), 1), 5);
        same("17 few before least", x.all(hours(0, 1, 3), 1), 32);
        same("17 empty", x.all(0, 0), 0);
        same("17 empty, who", x.all(0, 1), 0);
        same("17 none", x.all(hours(0, 4), 0), NONE);
        same("17 none, who", x.all(hours(0, 4), 1), NONE);
        x.leave(0);
        same("17 without A", x.all(hours(0, 1, 2, 3), 1), 34);
        same("17 hours -1", x.all(-1, 0), OUTSIDE);
        same("17 hours too many", x.all(EVERY_HOUR + 1, 0), OUTSIDE);
        same("17 what 2", x.all(1, 2), OUTSIDE);
        same("17 what -1", x.all(1, -1), OUTSIDE);
        for (int c = 0; c < 6; c++) {
            x.courtier(c, 15 << (4 * c));
        }
        same("17 six", x.all(EVERY_HOUR, 0), 6);
        same("17 six, who", x.all(EVERY_HOUR, 1), 63);
    }

    private static GloveHours deeds(int... hours) {
        GloveHours x = new GloveHours();
        x.set(1, 20);
        x.courtier(0, EVERY_HOUR);
        x.wipe();
        int before = -1;
        for (int hour : hours) {
            String signs = hour == before ? "A!" : String.format("Ar%02dA!", hour);
            before = hour;
            for (char sign : signs.toCharArray()) {
                x.say(sign);
            }
        }
        return x;
    }

    private static void isMended(int count, int first, int... hours) {
        GloveHours x = deeds(hours);
        String name = "18 mended of " + java.util.Arrays.toString(hours);
        same(name + ", how many", x.mended(0), count);
        same(name + ", the first", x.mended(1), first);
    }

    private static void mended() {
        isMended(0, NONE);
        isMended(0, NONE, 5);
        isMended(0, NONE, 1, 1, 2, 2, 23);
        isMended(1, 1, 2, 1);
        isMended(1, 1, 2, 1, 2);
        isMended(1, 0, 23, 1, 2);
        isMended(2, 1, 3, 2, 1, 3);
        isMended(2, 2, 1, 5, 4, 3, 6);
        isMended(1, 2, 0, 9, 3, 10);
        isMended(3, 1, 9, 8, 7, 6);
        isMended(2, 0, 9, 8, 1, 2, 3);
        isMended(3, 0, 2, 2, 1, 1, 1, 3, 2, 3);
        isMended(3, 2, 2, 2, 1, 1, 3, 2, 3);
        GloveHours x = court();
        day(x, "Ar06Br06AB.Ar05A!AA");
        same("18 OUTSIDE", x.mended(2), OUTSIDE);
        same("18 OUTSIDE -1", x.mended(-1), OUTSIDE);
        day(x, FAULTY);
        same("18 OUTSIDE before NO", x.mended(2), OUTSIDE);
        refusalsOfDay("18", x, () -> x.mended(0));
        refusalsOfDay("18, the first,", x, () -> x.mended(1));
        GloveHours y = court();
        y.set(1, 20);
        doDay(y, "Ar06Br06", 2);
        day(y, "AB".repeat(20));
        same("18 forty deeds of one hour", y.mended(0), 0);
        day(y, "AB".repeat(20) + "Ar05A!Ar07A!");
        same("18 the last but one", y.mended(0), 1);
        same("18 its number", y.mended(1), 40);
    }

    private static void strikes() {
        GloveHours x = new GloveHours();
        same("19 4, 1 and 6, 3", x.strikes(4, 1, 6, 3), 9);
        same("19 3, 2 and 5, 3", x.strikes(3, 2, 5, 3), 8);
        same("19 none", x.strikes(4, 1, 6, 2), NONE);
        same("19 one period", x.strikes(7, 3, 7, 3), 3);
        same("19 one period, none", x.strikes(7, 3, 7, 4), NONE);
        same("19 1 and 1", x.strikes(1, 0, 1, 0), 0);
        same("19 the greatest", x.strikes(999, 998, 998, 997), 997001);
        same("19 999 and 997", x.strikes(999, 998, 997, 996), 996002);
        same("19 1 and 999", x.strikes(1, 0, 999, 998), 998);
        same("19 a 0", x.strikes(0, 0, 1, 0), OUTSIDE);
        same("19 b 0", x.strikes(1, 0, 0, 0), OUTSIDE);
        same("19 a 1000", x.strikes(1000, 0, 1, 0), OUTSIDE);
        same("19 b 1000", x.strikes(1, 0, 1000, 0), OUTSIDE);
        same("19 a -1", x.strikes(-1, 0, 1, 0), OUTSIDE);
        same("19 b LOW", x.strikes(1, 0, LOW, 0), OUTSIDE);
        same("19 x a", x.strikes(4, 4, 6, 3), OUTSIDE);
        same("19 x -1", x.strikes(4, -1, 6, 3), OUTSIDE);
        same("19 y b", x.strikes(4, 1, 6, 6), OUTSIDE);
        same("19 y -1", x.strikes(4, 1, 6, -1), OUTSIDE);
    }

    private static void often() {
        GloveHours x = new GloveHours();
        same("20 none yet", x.often(7, 3, 5, 2, 16), 0);
        same("20 at m", x.often(7, 3, 5, 2, 17), 1);
        same("20 before the next", x.often(7, 3, 5, 2, 51), 1);
        same("20 two", x.often(7, 3, 5, 2, 52), 2);
        same("20 every minute", x.often(1, 0, 1, 0, 999999), 1000000);
        same("20 minute 0", x.often(1, 0, 1, 0, 0), 1);
        same("20 periods of a divisor", x.often(4, 1, 6, 3, 999999), 83333);
        same("20 never", x.often(4, 1, 6, 2, 999999), 0);
        same("20 the greatest", x.often(999, 998, 998, 997, 999999), 1);
        same("20 the greatest, too soon", x.often(999, 998, 998, 997, 997000), 0);
        same("20 a 0", x.often(0, 0, 1, 0, 1), OUTSIDE);
        same("20 b 1000", x.often(1, 0, 1000, 0, 1), OUTSIDE);
        same("20 x a", x.often(4, 4, 6, 3, 1), OUTSIDE);
        same("20 y -1", x.often(4, 1, 6, -1, 1), OUTSIDE);
        same("20 m -1", x.often(4, 1, 6, 3, -1), OUTSIDE);
        same("20 m 1000000", x.often(4, 1, 6, 3, 1000000), OUTSIDE);
        same("20 never, m -1", x.often(4, 1, 6, 2, -1), OUTSIDE);
    }

    private static void seen() {
        GloveHours x = court();
        same("21 hour 24", x.seen(24, true), OUTSIDE);
        same("21 hour -1", x.seen(-1, false), OUTSIDE);
        same("21 first", x.seen(0, false), 1);
        same("21 the same again", x.seen(0, false), 2);
        for (int i = 3; i <= 8; i++) {
            same("21 sight " + i, x.seen(23, true), i);
        }
        same("21 full", x.seen(1, true), FULL);
        same("21 OUTSIDE before FULL", x.seen(24, true), OUTSIDE);
        same("21 told", x.told(4), 8);
        x.forget();
        x.seen(6, true);
        for (int i = 2; i <= 8; i++) {
            x.seen(6, true);
        }
        x.seen(7, true);
        same("21 refused: no sight", x.wore(), 3);
    }

    private static void forget() {
        GloveHours x = court();
        same("22 none", x.forget(), 0);
        x.seen(6, true);
        x.seen(7, false);
        same("22 before", x.wore(), 2);
        same("22 two", x.forget(), 2);
        same("22 behind", x.wore(), 11);
        same("22 none again", x.forget(), 0);
        same("22 told", x.told(4), 0);
        same("22 a new one", x.seen(7, false), 1);
        same("22 a new one alone", x.wore(), 10);
    }

    private static void wore() {
        GloveHours x = court();
        same("23 no sights", x.wore(), 11);
        x.seen(6, true);
        same("23 owners", x.wore(), 3);
        x.seen(7, true);
        same("23 owners of both", x.wore(), 1);
        x.forget();
        x.seen(8, true);
        x.seen(6, true);
        same("23 owners of both, told in another order", x.wore(), 2);
        x.forget();
        x.seen(7, false);
        x.seen(0, false);
        same("23 of neither", x.wore(), 2);
        x.forget();
        x.seen(6, true);
        x.seen(8, false);
        same("23 and not 8", x.wore(), 1);
        doDay(x, "B>D08", 1);
        same("23 as he owns now", x.wore(), 3);
        day(x, "A>D06");
        same("23 not behind the pad", x.wore(), 3);
        x.wipe();
        x.seen(6, false);
        same("23 seen and not owned", x.wore(), 0);
        x.forget();
        x.seen(1, false);
        same("23 nobody owns it", x.wore(), 11);
        x.leave(0);
        same("23 who is gone", x.wore(), 10);
        x.seen(1, true);
        same("23 none", x.wore(), 0);
    }

    private static void ask() {
        GloveHours x = new GloveHours();
        same("24 nobody, 0", x.ask(0), NONE);
        same("24 nobody, 1", x.ask(1), NONE);
        x.courtier(0, hours(3, 5));
        same("24 one", x.ask(0), 0);
        same("24 one, how many", x.ask(1), 1);
        x.courtier(1, hours(4, 5));
        x.courtier(2, hours(5, 23));
        same("24 one against two: the least hour", x.ask(0), 3);
        same("24 one against two", x.ask(1), 2);
        x.courtier(3, hours(23));
        same("24 two against two", x.ask(0), 23);
        same("24 two against two, how many", x.ask(1), 2);
        x.seen(5, true);
        same("24 of those who fit", x.ask(0), 3);
        same("24 of those who fit, how many", x.ask(1), 2);
        x.seen(3, false);
        same("24 of two", x.ask(0), 4);
        same("24 of two, how many", x.ask(1), 1);
        x.seen(5, false);
        same("24 nobody fits", x.ask(0), NONE);
        same("24 OUTSIDE before NONE", x.ask(2), OUTSIDE);
        x.forget();
        same("24 what 2", x.ask(2), OUTSIDE);
        same("24 what -1", x.ask(-1), OUTSIDE);
        for (int c = 0; c < 6; c++) {
            x.courtier(c, hours(7));
        }
        same("24 all alike", x.ask(0), 0);
        same("24 all alike, how many", x.ask(1), 6);
    }

    private static void isFraction(int n, int m, int t, int what, long upper, long lower) {
        GloveHours x = new GloveHours();
        String name = "25 tear(" + n + ", " + m + ", " + t + ", " + what + ")";
        same(name + " upper", x.tear(n, m, t, what, 0), upper);
        same(name + " lower", x.tear(n, m, t, what, 1), lower);
    }

    private static void tear() {
        isFraction(0, 0, 0, 0, 0, 1);
        isFraction(0, 12, 5, 0, 0, 1);
        isFraction(0, 12, 5, 1, 0, 1);
        isFraction(9, 0, 10, 0, 1, 1);
        isFraction(9, 0, 10, 1, 0, 1);
        isFraction(1, 1, 5, 0, 1, 2);
        isFraction(1, 1, 5, 1, 1, 1);
        isFraction(1, 2, 5, 1, 3, 2);
        isFraction(1, 3, 3, 0, 343, 1000);
        isFraction(2, 3, 3, 1, 291, 100);
        isFraction(2, 2, 3, 0, 91, 100);
        isFraction(9, 12, 10, 0, 0, 1);
        isFraction(9, 12, 10, 1, 9, 1);
        isFraction(9, 12, 0, 1, 12, 1);
        isFraction(9, 12, 0, 0, 1, 1);
        isFraction(9, 12, 5, 0, 3797, 4096);
        isFraction(1, 12, 1, 0, 282429536481L, 1000000000000L);
        GloveHours x = new GloveHours();
        long refused = GloveHours.GONE + OUTSIDE;
        same("25 n -1", x.tear(-1, 1, 1, 0, 0), refused);
        same("25 n 10", x.tear(10, 1, 1, 0, 0), refused);
        same("25 m -1", x.tear(1, -1, 1, 0, 0), refused);
        same("25 m 13", x.tear(1, 13, 1, 0, 0), refused);
        same("25 t -1", x.tear(1, 1, -1, 0, 0), refused);
        same("25 t 11", x.tear(1, 1, 11, 0, 0), refused);
        same("25 what -1", x.tear(1, 1, 1, -1, 0), refused);
        same("25 what 2", x.tear(1, 1, 1, 2, 0), refused);
        same("25 part -1", x.tear(1, 1, 1, 0, -1), refused);
        same("25 part 2", x.tear(1, 1, 1, 0, 2), refused);
        same("25 refused is GONE and -2", refused, -1000000000000000002L);
    }

    private static void vespers() {
        GloveHours x = new GloveHours();
        x.courtier(0, hours(1, 2, 3));
        x.courtier(1, hours(4));
        x.courtier(4, 0);
        same("26 three quarters and one", x.vespers(0, 10), 7);
        same("26 a quarter", x.vespers(1, 10), 2);
        same("26 who has none is first", x.vespers(4, 10), 1);
        same("26 nothing over", x.vespers(4, 8), 0);
        same("26 nothing over, three quarters", x.vespers(0, 8), 6);
        x.courtier(2, hours(7));
        x.courtier(4, hours(7));
        // 3, 1, 1, 1 of 6: of 10 each 5, 1, 1, 1 and two over, to B and C.
        same("26 of several the least", x.vespers(1, 10), 2);
        same("26 of several the next", x.vespers(2, 10), 2);
        same("26 of several the last", x.vespers(4, 10), 1);
        same("26 with more pairs", x.vespers(0, 10), 5);
        same("26 no candles", x.vespers(0, 0), 0);
        same("26 999 candles", x.vespers(0, 999), 499);
        same("26 999 candles, B", x.vespers(1, 999), 167);
        same("26 999 candles, E", x.vespers(4, 999), 166);
        same("26 UNKNOWN", x.vespers(3, 1), UNKNOWN);
        same("26 UNKNOWN 6", x.vespers(6, 1), UNKNOWN);
        same("26 UNKNOWN -1", x.vespers(-1, 1), UNKNOWN);
        same("26 UNKNOWN before OUTSIDE", x.vespers(3, -1), UNKNOWN);
        same("26 c -1", x.vespers(0, -1), OUTSIDE);
        same("26 c 1000", x.vespers(0, 1000), OUTSIDE);
        GloveHours y = new GloveHours();
        y.courtier(0, 0);
        y.courtier(1, 0);
        same("26 no pairs", y.vespers(0, 5), 0);
        GloveHours z = new GloveHours();
        z.courtier(0, 0);
        z.courtier(1, hours(9));
        same("26 one pair", z.vespers(1, 5), 5);
        same("26 none of one pair", z.vespers(0, 5), 0);
        same("26 no pairs, the other", y.vespers(1, 5), 0);
    }

    private static void reign() {
        GloveHours x = new GloveHours();
        // Of seed 0 the draws are 74, 5624, 28652, 51800, 18341, 65009: C's hour passes at once.
        for (int c = 0; c < 6; c++) {
            x.courtier(c, EVERY_HOUR);
        }
        same("27 one act", x.reign(0, 1, 2), 6);
        same("27 seed -1", x.reign(-1, 1, 0), OUTSIDE);
        same("27 seed 10000", x.reign(10000, 1, 0), OUTSIDE);
        same("27 m 0", x.reign(0, 0, 0), OUTSIDE);
        same("27 m 100", x.reign(0, 100, 0), OUTSIDE);
        same("27 what -1", x.reign(0, 1, -1), OUTSIDE);
        same("27 what 3", x.reign(0, 1, 3), OUTSIDE);
        GloveHours y = new GloveHours();
        Model model = new Model();
        int[] pairs = {EVERY_HOUR & ~7, 0, EVERY_HOUR & ~14, 0, 0, EVERY_HOUR & ~1};
        for (int c : new int[] {0, 2, 5}) {
            y.courtier(c, pairs[c]);
            model.courtier(c, pairs[c]);
        }
        for (char sign : "...Ar03A!Fr05F!".toCharArray()) {
            y.say(sign);
            model.say(sign);
        }
        same("27 done", y.done(), model.done());
        day(y, FAULTY);
        for (int seed = 0; seed < 40; seed++) {
            for (int what = 0; what < 3; what++) {
                same("27 reign(" + 250 * seed + ", 99, " + what + ")", y.reign(250 * seed, 99, what),
                        model.reign(250 * seed, 99, what));
            }
        }
        same("27 the greatest seed", y.reign(9999, 99, 2), model.reign(9999, 99, 2));
        same("27 nothing is done: clock", y.told(2), 3);
        same("27 nothing is done: wear", y.told(103), 1);
        same("27 nothing is done: right", y.told(11), 3);
        same("27 nothing is done: scandals", y.told(12), 3);
        same("27 nothing is done: signs", y.told(0), 2);
    }

    private static void image() {
        GloveHours x = court();
        same("28 image(0)", x.image(0), 1);
        same("28 image(1)", x.image(1), 1);
        same("28 again", x.image(0), 1);
        same("28 image(2)", x.image(2), OUTSIDE);
        same("28 image(-1)", x.image(-1), OUTSIDE);
        doDay(x, "Ar06", 1);
        same("28 kept as it was", x.restore(1), 1);
        same("28 kept as it was, right", x.told(11), 24);
        doDay(x, "Ar07", 1);
        x.image(1);
        x.restore(0);
        same("28 kept apart, 0", x.told(11), 24);
        x.restore(1);
        same("28 kept apart, 1", x.told(11), 7);
    }

    private static void restore() {
        GloveHours x = court();
        same("29 STATE 0", x.restore(0), STATE);
        same("29 restore(2)", x.restore(2), OUTSIDE);
        same("29 restore(-1)", x.restore(-1), OUTSIDE);
        doDay(x, "Ar06Al05A!.", 4);
        x.set(1, 5);
        x.seen(6, true);
        day(x, "B!");
        x.image(1);
        same("29 the other is not kept", x.restore(0), STATE);
        day(x, "A0.A>D07");
        x.done();
        x.set(1, 6);
        x.seen(5, true);
        x.seen(8, false);
        x.leave(1);
        x.courtier(2, 1);
        day(x, "Ax.");
        same("29 restored", x.restore(1), 1);
        same("29 courtiers", x.told(1), 11);
        same("29 clock", x.told(2), 7);
        same("29 tears", x.told(3), 5);
        same("29 sights", x.told(4), 1);
        same("29 left", x.told(10), 5);
        same("29 right", x.told(11), 6);
        same("29 scandals", x.told(22), 1);
        same("29 wear", x.told(106), 1);
        same("29 pairs", x.told(107), 0);
        same("29 pairs of another", x.told(407), NONE);
        same("29 whom the sights fit", x.wore(), 3);
        same("29 the pad stays", x.told(0), 3);
        same("29 the pad's fault stays", x.fault(), 1);
        x.forget();
        same("29 once more", x.restore(1), 1);
        same("29 once more: sights", x.told(4), 1);
        x.wipe();
        doDay(x, "..", 2);
        x.restore(1);
        same("29 the image is not touched by what is done", x.told(2), 7);
    }

    private static void told() {
        GloveHours x = court();
        doDay(x, "Ar06Al05A!.Dl23", 5);
        x.seen(3, true);
        day(x, "A!x");
        int[] few = {3, 11, 7, 9, 1};
        for (int what = 0; what < few.length; what++) {
            same("30 told(" + what + ")", x.told(what), few[what]);
        }
        same("30 left", x.told(10), 5);
        same("30 right", x.told(11), 6);
        same("30 scandals", x.told(12), 0);
        same("30 left of D", x.told(40), 23);
        same("30 right of D", x.told(41), 24);
        same("30 scandals of D", x.told(42), 1);
        same("30 wear", x.told(106), 1);
        same("30 no wear", x.told(105), 0);
        same("30 not owned", x.told(100), NONE);
        same("30 of D", x.told(423), 0);
        same("30 not owned by D", x.told(422), NONE);
        int[] outside = {5, 6, 9, 13, 19, 30, 31, 32, 43, 50, 60, 70, 71, 99, 124, 199, 224, 300, 323, 424, 500, 600,
            623, 700, 1010, -1, -10, -90, -100, LOW, HIGH};
        for (int what : outside) {
            same("30 told(" + what + ")", x.told(what), OUTSIDE);
        }
        x.courtier(5, EVERY_HOUR);
        same("30 F's left", x.told(60), 24);
        same("30 F's scandals", x.told(62), 0);
        same("30 F's 0", x.told(600), 0);
        same("30 F's 23", x.told(623), 0);
        same("30 behind F", x.told(63), OUTSIDE);
        same("30 behind F's 23", x.told(624), OUTSIDE);
    }

    private static void constants() {
        same("UNKNOWN", GloveHours.UNKNOWN, UNKNOWN);
        same("OUTSIDE", GloveHours.OUTSIDE, OUTSIDE);
        same("STATE", GloveHours.STATE, STATE);
        same("FULL", GloveHours.FULL, FULL);
        same("NO", GloveHours.NO, NO);
        same("NONE", GloveHours.NONE, NONE);
        same("GONE", GloveHours.GONE, -1000000000000000000L);
    }
}
