/** The third part's sentences that name a boundary case, each by itself: matches, orders, two countries (promises 16 to 20). */
public final class EdgesOfMatches {
    private static final int UNKNOWN = Play.UNKNOWN, OUTSIDE = Play.OUTSIDE, NONE = Play.NONE;
    private static final int EVERY_HOUR = Play.EVERY_HOUR;
    private static final int LOW = Play.LOW, HIGH = Play.HIGH;
    private static final int LAST_MINUTE = 999999;
    private static final Due due = new Due("EdgesOfMatches");

    private EdgesOfMatches() {
    }

    public static void main(String[] args) {
        oneToTwentyFour();
        atMostSoMany();
        hoursOfMatch();
        hoursNotOfTheSet();
        outsideAheadOfUnknown();
        mostThatCanBeDone();
        inPairsThatHeOwns();
        firstSuchWay();
        noneBehindAll();
        fewestWhoOwn();
        leastAsBits();
        noneOwnAll();
        refusedAll();
        leftOut();
        neverFall();
        firstLeftOut();
        noneLeftOut();
        numbersOfCountries();
        firstMinute();
        noMinute();
        upToMinute();
        minuteIsOutside();
        due.end();
    }

    private static void same(String call, long got, long want) {
        due.same(call, got, want);
    }

    private static int hours(int... hours) {
        return Play.hours(hours);
    }

    private static void oneToTwentyFour() {
        due.sentence("COURTIERS of whom each does v at most (1 to 24)");
        GloveHours x = Play.court(EVERY_HOUR);
        for (int v = 1; v <= 24; v++) {
            same("match(all, " + v + ", -1)", x.match(EVERY_HOUR, v, -1), v);
            same("match(all, " + v + ", the last that he does)", x.match(EVERY_HOUR, v, v - 1), 0);
            if (v < 24) {
                same("match(all, " + v + ", the next)", x.match(EVERY_HOUR, v, v), NONE);
            }
        }
        for (int v : new int[] {0, 25, -1, LOW, HIGH}) {
            same("match(all, " + v + ", -1)", x.match(EVERY_HOUR, v, -1), OUTSIDE);
            same("match(all, " + v + ", 0)", x.match(EVERY_HOUR, v, 0), OUTSIDE);
            same("match(0, " + v + ", -1)", x.match(0, v, -1), OUTSIDE);
        }
    }

    private static void atMostSoMany() {
        due.sentence("one DEED each, COURTIERS of whom each does v at most");
        GloveHours x = Play.court(EVERY_HOUR, EVERY_HOUR, EVERY_HOUR, EVERY_HOUR, EVERY_HOUR, EVERY_HOUR);
        for (int v = 1; v <= 24; v++) {
            same("match(all, " + v + ", -1) of six", x.match(EVERY_HOUR, v, -1), Math.min(24, 6 * v));
        }
        for (int hour = 0; hour < 24; hour++) {
            same("match(all, 4, " + hour + ")", x.match(EVERY_HOUR, 4, hour), hour / 4);
            same("match(all, 3, " + hour + ")", x.match(EVERY_HOUR, 3, hour), hour < 18 ? hour / 3 : NONE);
        }
    }

    private static void hoursOfMatch() {
        due.sentence("MATCH: HOURS of a set of them");
        GloveHours x = Play.court(hours(0, 23), hours(5));
        same("match(0, 1, -1)", x.match(0, 1, -1), 0);
        same("match(1, 1, -1)", x.match(1, 1, -1), 1);
        same("match(1 << 23, 1, -1)", x.match(1 << 23, 1, -1), 1);
        same("match(1 << 23, 1, 23)", x.match(1 << 23, 1, 23), 0);
        same("match(all, 24, -1)", x.match(EVERY_HOUR, 24, -1), 3);
        same("match(all, 24, 23)", x.match(EVERY_HOUR, 24, 23), 0);
        same("match(all, 1, 23)", x.match(EVERY_HOUR, 1, 23), NONE);
        for (int set : new int[] {-1, 1 << 24, 1 << 24 | 1, LOW, HIGH}) {
            same("match(" + set + ", 1, -1)", x.match(set, 1, -1), OUTSIDE);
            same("match(" + set + ", 1, 0)", x.match(set, 1, 0), OUTSIDE);
        }
        GloveHours nobody = new GloveHours();
        same("match(all, 24, -1) of nobody", nobody.match(EVERY_HOUR, 24, -1), 0);
        same("match(all, 24, 0) of nobody", nobody.match(EVERY_HOUR, 24, 0), NONE);
    }

    private static void hoursNotOfTheSet() {
        due.sentence("UNKNOWN (behind that): an HOUR that is not of the set.");
        GloveHours x = Play.court(EVERY_HOUR);
        for (int hour = 0; hour < 24; hour++) {
            same("match(all but " + hour + ")", x.match(EVERY_HOUR ^ 1 << hour, 1, hour), UNKNOWN);
            same("match(0, 1, " + hour + ")", x.match(0, 1, hour), UNKNOWN);
            same("match(" + hour + " alone)", x.match(1 << hour, 1, hour), 0);
        }
        for (int hour : new int[] {24, -2, 31, 32, 55, LOW, HIGH}) {
            same("match(all, 1, " + hour + ")", x.match(EVERY_HOUR, 1, hour), UNKNOWN);
        }
    }

    private static void outsideAheadOfUnknown() {
        due.sentence("where a call names them in another order, in that");
        GloveHours x = Play.court(EVERY_HOUR);
        same("match(-1, 1, 24)", x.match(-1, 1, 24), OUTSIDE);
        same("match(1 << 24, 1, 0)", x.match(1 << 24, 1, 0), OUTSIDE);
        same("match(1, 0, 1)", x.match(1, 0, 1), OUTSIDE);
        same("match(1, 25, -2)", x.match(1, 25, -2), OUTSIDE);
        same("match(1, 1, 1)", x.match(1, 1, 1), UNKNOWN);
    }

    private static void mostThatCanBeDone() {
        due.sentence("the most that can be done");
        GloveHours x = Play.court(hours(0, 1, 2), hours(0), hours(0, 1));
        same("three of three", x.match(7, 1, -1), 3);
        same("0", x.match(7, 1, 0), 1);
        same("1", x.match(7, 1, 1), 2);
        same("2", x.match(7, 1, 2), 0);
        GloveHours y = Play.court(hours(0), hours(0), hours(0), hours(0, 1, 2, 3));
        same("who own one hour alone are of no more use", y.match(15, 2, -1), 3);
        same("all by the one who owns them", y.match(15, 3, -1), 4);
        same("0, by A", y.match(15, 3, 0), 0);
        same("1, by D", y.match(15, 3, 1), 3);
        GloveHours z = Play.court(hours(0), hours(1), hours(2), hours(3), hours(4), hours(5, 6));
        same("six of seven", z.match(127, 1, -1), 6);
        same("seven of seven", z.match(127, 2, -1), 7);
        same("6, by nobody", z.match(127, 1, 6), NONE);
        same("6, by F", z.match(127, 2, 6), 5);
    }

    private static void inPairsThatHeOwns() {
        due.sentence("each in a PAIR that he owns");
        GloveHours x = Play.court(hours(0), hours(1));
        same("0 of A", x.match(3, 24, 0), 0);
        same("1 of B", x.match(3, 24, 1), 1);
        Play.done(x, "A>B00");
        same("0 when it is given", x.match(3, 24, 0), 1);
        same("most when it is given", x.match(3, 24, -1), 2);
        same("most with v 1", x.match(3, 1, -1), 1);
        Play.day(x, "B>A00");
        same("now, not behind the pad", x.match(3, 1, -1), 1);
        x.set(1, 1);
        Play.done(x, "Br00B!");
        same("0 when it is torn", x.match(3, 24, 0), NONE);
        x.leave(1);
        same("most when he left", x.match(3, 24, -1), 0);
    }

    private static void firstSuchWay() {
        due.sentence("who does an HOUR's in the first such way (the least HOUR's least COURTIER, then the next one's, and so on");
        GloveHours x = Play.court(hours(0, 1), hours(0, 1), hours(0, 23), 0, 0, hours(23));
        same("0", x.match(hours(0, 1, 23), 1, 0), 0);
        same("1", x.match(hours(0, 1, 23), 1, 1), 1);
        same("23", x.match(hours(0, 1, 23), 1, 23), 2);
        same("0 when C must do it", x.match(hours(0), 1, 0), 0);
        x.leave(0);
        same("0 without A", x.match(hours(0, 1, 23), 1, 0), 2);
        same("1 without A", x.match(hours(0, 1, 23), 1, 1), 1);
        same("23 without A", x.match(hours(0, 1, 23), 1, 23), 5);
        same("0, of two each", x.match(hours(0, 1, 23), 2, 0), 1);
        same("23, of two each", x.match(hours(0, 1, 23), 2, 23), 2);
    }

    private static void noneBehindAll() {
        due.sentence("none, NONE, behind all");
        GloveHours x = Play.court(hours(1, 2, 3), 0, 0, 0, 0, hours(1));
        same("one hour is left out: most", x.match(hours(1, 2, 3), 1, -1), 2);
        same("1, by F, for one more is done", x.match(hours(1, 2, 3), 1, 1), 5);
        same("2, by A: not done is behind", x.match(hours(1, 2, 3), 1, 2), 0);
        same("3, by nobody", x.match(hours(1, 2, 3), 1, 3), NONE);
        same("0, owned by nobody", x.match(hours(0, 1), 1, 0), NONE);
        same("1 behind it", x.match(hours(0, 1), 1, 1), 0);
    }

    private static void fewestWhoOwn() {
        due.sentence("ALL: the fewest COURTIERS who own PAIRS of all HOURS of a set");
        GloveHours x = new GloveHours();
        same("all(0, 0) of nobody", x.all(0, 0), 0);
        same("all(0, 1) of nobody", x.all(0, 1), 0);
        for (int c = 0; c < 6; c++) {
            x.courtier(c, hours(c, 23 - c));
            int owned = 0;
            for (int i = 0; i <= c; i++) {
                owned |= hours(i, 23 - i);
            }
            same("all(what they own, 0)", x.all(owned, 0), c + 1);
            same("all(what they own, 1)", x.all(owned, 1), (2 << c) - 1);
        }
        same("all(0, 0)", x.all(0, 0), 0);
        same("all(0, 1)", x.all(0, 1), 0);
        x.courtier(5, EVERY_HOUR);
        same("all(all, 0)", x.all(EVERY_HOUR, 0), 1);
        same("all(all, 1)", x.all(EVERY_HOUR, 1), 32);
        same("few go ahead of least", x.all(hours(0, 1), 1), 32);
    }

    private static void leastAsBits() {
        due.sentence("how many; who, least as bits; NONE");
        GloveHours x = Play.court(hours(0, 1), hours(1, 2), hours(2, 3), hours(0, 3), hours(0, 1, 2), hours(3));
        same("one of several", x.all(hours(1), 1), 1);
        same("E alone owns three", x.all(hours(0, 1, 2), 0), 1);
        same("A and C", x.all(hours(0, 1, 2, 3), 1), 5);
        x.leave(0);
        same("B and D", x.all(hours(0, 1, 2, 3), 1), 10);
        x.leave(1);
        same("C and E", x.all(hours(0, 1, 2, 3), 1), 20);
        x.leave(2);
        same("D and E", x.all(hours(0, 1, 2, 3), 1), 24);
        x.leave(3);
        same("E and F", x.all(hours(0, 1, 2, 3), 1), 48);
    }

    private static void noneOwnAll() {
        due.sentence("ALL: how many (what = 0), who (1); NONE.");
        GloveHours x = new GloveHours();
        for (int what = 0; what < 2; what++) {
            same("all(1, " + what + ") of nobody", x.all(1, what), NONE);
        }
        x.courtier(0, EVERY_HOUR ^ 1 << 23);
        for (int what = 0; what < 2; what++) {
            same("all(all, " + what + ") but 23", x.all(EVERY_HOUR, what), NONE);
            same("all(23, " + what + ")", x.all(1 << 23, what), NONE);
            same("all(all others, " + what + ")", x.all(EVERY_HOUR ^ 1 << 23, what), 1);
        }
        x.courtier(1, 1 << 23);
        same("all(all, 0) with it", x.all(EVERY_HOUR, 0), 2);
        x.set(1, 1);
        Play.done(x, "Br23B!");
        same("all(all, 0) when it is torn", x.all(EVERY_HOUR, 0), NONE);
    }

    private static void refusedAll() {
        due.sentence("who (1); NONE. OUTSIDE: HOURS, what.");
        GloveHours x = Play.court(EVERY_HOUR);
        for (int what : new int[] {-1, 2, LOW, HIGH}) {
            same("all(0, " + what + ")", x.all(0, what), OUTSIDE);
            same("all(-1, " + what + ")", x.all(-1, what), OUTSIDE);
        }
        for (int set : new int[] {-1, 1 << 24, LOW, HIGH}) {
            same("all(" + set + ", 0)", x.all(set, 0), OUTSIDE);
            same("all(" + set + ", 1)", x.all(set, 1), OUTSIDE);
        }
    }

    /** A day of A's deeds of these hours. */
    private static GloveHours deeds(int... hours) {
        GloveHours x = Play.court(EVERY_HOUR);
        x.set(1, 20);
        int before = -1;
        for (int hour : hours) {
            Play.say(x, (hour == before ? "" : Play.puts(0, 'r', hour)) + "A!");
            before = hour;
        }
        return x;
    }

    private static void isMended(int howMany, int first, int... hours) {
        String name = " of " + java.util.Arrays.toString(hours);
        GloveHours x = deeds(hours);
        same("mended(0)" + name, x.mended(0), howMany);
        same("mended(1)" + name, x.mended(1), first);
    }

    private static void leftOut() {
        due.sentence("the fewest to be left out so that HOURS of the others never fall");
        isMended(1, 1, 1, 0);
        isMended(1, 1, 23, 0);
        isMended(2, 1, 23, 22, 21);
        isMended(9, 1, 9, 8, 7, 6, 5, 4, 3, 2, 1, 0);
        isMended(1, 0, 23, 0, 1, 2, 3, 4, 5, 6, 7, 8);
        isMended(1, 9, 0, 1, 2, 3, 4, 5, 6, 7, 23, 8);
        isMended(1, 1, 0, 23, 1, 2, 3, 4, 5, 6, 7, 8);
        GloveHours x = Play.court(hours(1, 2), hours(1, 2));
        Play.done(x, "Ar02Br02");
        Play.day(x, "ABAr01A!B!");
        same("mended(0) over two courtiers", x.mended(0), 1);
        same("mended(1) over two courtiers", x.mended(1), 2);
        for (int what : new int[] {-1, 2, LOW, HIGH}) {
            same("mended(" + what + ")", x.mended(what), OUTSIDE);
        }
    }

    private static void neverFall() {
        due.sentence("HOURS of the others never fall");
        isMended(0, NONE, 3, 3);
        isMended(0, NONE, 0, 0, 0, 23, 23, 23);
        isMended(0, NONE, 0, 1, 22, 23);
        isMended(2, 2, 3, 3, 2, 2, 3);
        GloveHours x = deeds(23);
        Play.say(x, "..Ar00A!");
        same("behind 23 0 falls, too", x.mended(0), 1);
        same("the clock is nothing to it", x.mended(1), 1);
        GloveHours y = Play.court(1, 1, 1, 1);
        y.set(1, 20);
        Play.done(y, "Ar00Br00Cr00Dr00");
        Play.day(y, "AB".repeat(15) + "CD".repeat(15));
        same("sixty of one hour", y.mended(0), 0);
        same("sixty of one hour, the first", y.mended(1), NONE);
    }

    private static void firstLeftOut() {
        due.sentence("the first of them (least number) that is left out in the way in which the numbers that stay are least in a row");
        isMended(1, 1, 5, 3, 5);
        isMended(1, 1, 5, 3, 9);
        isMended(2, 0, 5, 9, 1, 2, 3);
        isMended(2, 2, 5, 9, 1, 2);
        isMended(2, 1, 5, 4, 3, 5);
        isMended(3, 0, 9, 9, 9, 1, 1, 1, 1);
        isMended(3, 3, 9, 9, 9, 1, 1, 1);
        isMended(1, 2, 0, 9, 3, 10);
        isMended(1, 1, 0, 9, 3, 4);
    }

    private static void noneLeftOut() {
        due.sentence("MENDED: how many (what = 0), the first (1); NONE.");
        isMended(0, NONE);
        isMended(0, NONE, 0);
        isMended(0, NONE, 23);
        GloveHours x = Play.court(1);
        Play.day(x, "A0..");
        same("mended(0) of no deeds", x.mended(0), 0);
        same("mended(1) of no deeds", x.mended(1), NONE);
    }

    private static void numbersOfCountries() {
        due.sentence("OUTSIDE: a, b, x 0 to a less 1, y 0 to b less 1.");
        GloveHours x = new GloveHours();
        same("strikes(1, 0, 1, 0)", x.strikes(1, 0, 1, 0), 0);
        same("strikes(999, 998, 999, 998)", x.strikes(999, 998, 999, 998), 998);
        int[][] outside = {{0, 0, 1, 0}, {1000, 0, 1, 0}, {1, 0, 0, 0}, {1, 0, 1000, 0}, {-1, 0, 1, 0}, {1, 0, -1, 0},
            {5, 5, 7, 0}, {5, -1, 7, 0}, {5, 0, 7, 7}, {5, 0, 7, -1}, {1, 1, 1, 0}, {1, 0, 1, 1}, {999, 999, 1, 0},
            {1, 0, 999, 999}, {LOW, 0, 1, 0}, {HIGH, 0, 1, 0}, {1, 0, LOW, 0}, {1, 0, HIGH, 0}, {5, LOW, 7, 0},
            {5, HIGH, 7, 0}, {5, 0, 7, LOW}, {5, 0, 7, HIGH}, {0, -1, 1, 0}, {0, 0, 0, 0}, {LOW, LOW, LOW, LOW}};
        for (int[] four : outside) {
            String name = "(" + four[0] + ", " + four[1] + ", " + four[2] + ", " + four[3];
            same("strikes" + name + ")", x.strikes(four[0], four[1], four[2], four[3]), OUTSIDE);
            same("often" + name + ", 5)", x.often(four[0], four[1], four[2], four[3], 5), OUTSIDE);
            same("often" + name + ", -1)", x.often(four[0], four[1], four[2], four[3], -1), OUTSIDE);
        }
        for (int a = 1; a <= 999; a++) {
            GloveHours y = new GloveHours();
            same("strikes(" + a + ", the greatest, 1, 0)", y.strikes(a, a - 1, 1, 0), a - 1);
            same("strikes(1, 0, " + a + ", the greatest)", y.strikes(1, 0, a, a - 1), a - 1);
            same("strikes(" + a + ", as many, 1, 0)", y.strikes(a, a, 1, 0), OUTSIDE);
            same("strikes(1, 0, " + a + ", as many)", y.strikes(1, 0, a, a), OUTSIDE);
        }
    }

    private static void firstMinute() {
        due.sentence("the first minute (0 to 999999) that is left over by a (1 to 999) as x, and by b (1 to 999) as y");
        GloveHours x = new GloveHours();
        same("minute 0", x.strikes(999, 0, 998, 0), 0);
        same("the last that there can be", x.strikes(999, 998, 998, 997), 997001);
        same("the last but one", x.strikes(999, 997, 998, 996), 997000);
        for (int a = 1; a <= 20; a++) {
            for (int b = 1; b <= 20; b++) {
                GloveHours y = new GloveHours();
                compareMinutes(y, a, a - 1, b, b - 1, 999999);
                compareMinutes(y, a, 0, b, b - 1, 400);
                compareMinutes(y, a, a / 2, b, b / 3, 57);
                compareMinutes(y, a, 0, b, 0, a * b);
                compareMinutes(y, a, 0, b, 0, 0);
            }
        }
        int[][] greatest = {{999, 5, 997, 6}, {998, 997, 996, 1}, {999, 0, 111, 0}, {500, 499, 999, 3}, {997, 996, 991, 990}};
        for (int[] four : greatest) {
            compareMinutes(x, four[0], four[1], four[2], four[3], LAST_MINUTE);
        }
    }

    /** By looking at every minute. */
    private static void compareMinutes(GloveHours x, int a, int restA, int b, int restB, int m) {
        int first = NONE;
        int count = 0;
        for (int minute = 0; minute <= LAST_MINUTE && (minute <= m || first == NONE); minute++) {
            if (minute % a == restA && minute % b == restB) {
                first = first == NONE ? minute : first;
                count += minute <= m ? 1 : 0;
            }
        }
        String name = "(" + a + ", " + restA + ", " + b + ", " + restB;
        same("strikes" + name + ")", x.strikes(a, restA, b, restB), first);
        same("often" + name + ", " + m + ")", x.often(a, restA, b, restB, m), count);
    }

    private static void noMinute() {
        due.sentence("STRIKES: the first; NONE.");
        GloveHours x = new GloveHours();
        int[][] never = {{2, 0, 2, 1}, {4, 0, 6, 1}, {999, 0, 999, 998}, {998, 0, 996, 1}, {999, 1, 666, 0}};
        for (int[] four : never) {
            String name = "(" + four[0] + ", " + four[1] + ", " + four[2] + ", " + four[3];
            same("strikes" + name + ")", x.strikes(four[0], four[1], four[2], four[3]), NONE);
            same("often" + name + ", 999999)", x.often(four[0], four[1], four[2], four[3], LAST_MINUTE), 0);
            same("often" + name + ", 0)", x.often(four[0], four[1], four[2], four[3], 0), 0);
            same("often" + name + ", 1000000)", x.often(four[0], four[1], four[2], four[3], 1000000), OUTSIDE);
        }
    }

    private static void upToMinute() {
        due.sentence("how many such minutes there are up to minute m (0 to 999999)");
        GloveHours x = new GloveHours();
        same("minute 0 alone", x.often(999, 0, 998, 0, 0), 1);
        same("minute 0 is not of it", x.often(2, 1, 1, 0, 0), 0);
        same("one less than the second", x.often(999, 0, 998, 0, 997001), 1);
        same("the second", x.often(999, 0, 998, 0, 997002), 2);
        same("one less than the first", x.often(999, 998, 998, 997, 997000), 0);
        same("the first", x.often(999, 998, 998, 997, 997001), 1);
        same("every minute", x.often(1, 0, 1, 0, 999999), 1000000);
        same("every minute but the last", x.often(1, 0, 1, 0, 999998), 999999);
        same("every 999th", x.often(999, 0, 1, 0, 999999), 1002);
        same("every 999th of both", x.often(999, 998, 999, 998, 999999), 1001);
    }

    private static void minuteIsOutside() {
        due.sentence("STRIKES: how many up to m. OUTSIDE, likewise, m.");
        GloveHours x = new GloveHours();
        same("often(.., 0)", x.often(1, 0, 1, 0, 0), 1);
        same("often(.., 999999)", x.often(5, 4, 3, 2, 999999), 66666);
        for (int m : new int[] {-1, 1000000, LOW, HIGH}) {
            same("often(.., " + m + ")", x.often(1, 0, 1, 0, m), OUTSIDE);
            same("often of never, .., " + m + ")", x.often(2, 0, 2, 1, m), OUTSIDE);
        }
    }
}
