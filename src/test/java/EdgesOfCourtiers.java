/** The first part's sentences that name a boundary case, each by itself: courtiers, pairs, the pad, acts (promises 1 to 7). */
public final class EdgesOfCourtiers {
    private static final int UNKNOWN = Play.UNKNOWN, OUTSIDE = Play.OUTSIDE, STATE = Play.STATE;
    private static final int FULL = Play.FULL, NO = Play.NO, NONE = Play.NONE;
    private static final int EVERY_HOUR = Play.EVERY_HOUR, BARE = Play.BARE;
    private static final int LOW = Play.LOW, HIGH = Play.HIGH;
    private static final Due due = new Due("EdgesOfCourtiers");

    private EdgesOfCourtiers() {
    }

    public static void main(String[] args) {
        nobodyAtFirst();
        sixCourtiers();
        howManyAreThere();
        leaving();
        setsOfHours();
        noneOrOnePair();
        wearAtFirst();
        bareAtFirst();
        scandalsAtFirstAndAtMost();
        clockIsAnHour();
        tearsOneToTwenty();
        tornBySoMuchWear();
        tearsToldLower();
        noMoreAndBare();
        sixtySigns();
        codesOfSigns();
        signsGo();
        twoDigits();
        whatCanStandWhere();
        moreMustCome();
        emptyPad();
        firstFaultStays();
        bareHands();
        deedByTheRight();
        given();
        hourPasses();
        behindTwentyThree();
        aDeedOfTheRight();
        properOrAhead();
        leastReason();
        firstActThatCanNotBe();
        due.end();
    }

    private static void same(String call, long got, long want) {
        due.same(call, got, want);
    }

    private static int hours(int... hours) {
        return Play.hours(hours);
    }

    private static void nobodyAtFirst() {
        due.sentence("Nobody is there, CLOCK 0.");
        GloveHours x = new GloveHours();
        same("told(1)", x.told(1), 0);
        same("told(2)", x.told(2), 0);
        for (int c = 0; c < 6; c++) {
            same("leave(" + c + ")", x.leave(c), UNKNOWN);
            same("told(10..)", x.told(10 * (1 + c)), OUTSIDE);
            same("told(100..)", x.told(100 * (1 + c)), OUTSIDE);
            same("vespers(" + c + ", 5)", x.vespers(c, 5), UNKNOWN);
            same("can(0, " + (1 << c) + ", 0)", x.can(0, 1 << c, 0), UNKNOWN);
        }
        same("proper()", x.proper(), 0);
        same("wore()", x.wore(), 0);
        Play.day(x, ".");
        same("done() of .", x.done(), 1);
        same("told(2) behind .", x.told(2), 1);
        same("told(1) behind .", x.told(1), 0);
    }

    private static void sixCourtiers() {
        due.sentence("COURTIERS 0 to 5 (A to F), some of whom there are (none at first)");
        GloveHours x = new GloveHours();
        for (int c : new int[] {-1, 6, 7, 31, 32, 64, LOW, HIGH}) {
            same("courtier(" + c + ", 1)", x.courtier(c, 1), UNKNOWN);
            same("leave(" + c + ")", x.leave(c), UNKNOWN);
            same("behind(" + c + ", 0)", x.behind(c, 0), UNKNOWN);
            same("wear(" + c + ", 0)", x.wear(c, 0), UNKNOWN);
            same("vespers(" + c + ", 0)", x.vespers(c, 0), UNKNOWN);
        }
        same("told(1)", x.told(1), 0);
        for (int c = 0; c < 6; c++) {
            GloveHours one = new GloveHours();
            same("courtier(" + c + ", 1)", one.courtier(c, 1), 1);
            same("told(1), of " + c, one.told(1), 1 << c);
            same("done by letter " + Play.letter(c), Play.done(one, Play.puts(c, 'r', 0)), 1);
            same("his right", one.told(10 * (1 + c) + 1), 0);
        }
    }

    private static void howManyAreThere() {
        due.sentence("A COURTIER is there (or anew), with new PAIRS of a set of HOURS, BARE, SCANDALS 0: how many are.");
        GloveHours x = new GloveHours();
        for (int c = 5; c >= 0; c--) {
            same("courtier(" + c + ", 1)", x.courtier(c, 1), 6 - c);
        }
        same("a full court: anew", x.courtier(3, 2), 6);
        same("told(1)", x.told(1), 63);
        Play.done(x, "Ar00Al00A!.");
        same("wear before", x.told(100), 1);
        same("left before", x.told(10), 0);
        same("scandals before, of B", x.told(22), 1);
        x.set(0, 0);
        Play.done(x, "A0.");
        same("scandals before", x.told(12), 1);
        Play.done(x, "Ar00Al00");
        same("courtier(0, 1) anew", x.courtier(0, 1), 6);
        same("left anew", x.told(10), BARE);
        same("right anew", x.told(11), BARE);
        same("scandals anew", x.told(12), 0);
        same("wear anew", x.told(100), 0);
        same("scandals of B stay", x.told(22), 2);
        same("courtier(0, 2) anew", x.courtier(0, 2), 6);
        same("the old pair is gone", x.told(100), NONE);
        same("the new pair", x.told(101), 0);
    }

    private static void leaving() {
        due.sentence("A COURTIER is no more: how many are. UNKNOWN: he was not.");
        GloveHours x = Play.court(1, 1, 1, 1, 1, 1);
        for (int c = 0; c < 6; c++) {
            same("leave(" + c + ")", x.leave(c), 5 - c);
            same("leave(" + c + ") again", x.leave(c), UNKNOWN);
        }
        same("told(1)", x.told(1), 0);
        same("the last comes back", x.courtier(5, 0), 1);
        same("without his pairs", x.told(600), NONE);
        Play.done(x, "....");
        same("scandals", x.told(62), 4);
        x.leave(5);
        x.courtier(5, 0);
        same("without his scandals", x.told(62), 0);
    }

    private static void setsOfHours() {
        due.sentence("Sets are bits (of HOURS: bit h, 24 of them).");
        GloveHours x = new GloveHours();
        same("courtier(0, 0)", x.courtier(0, 0), 1);
        same("its pairs", x.behind(0, 3), 0);
        for (int hour = 0; hour < 24; hour++) {
            same("courtier(0, 1 << " + hour + ")", x.courtier(0, 1 << hour), 1);
            same("its pair", x.told(100 + hour), 0);
            same("its pair alone", x.behind(0, 3), 1 << hour);
            same("all(1 << " + hour + ", 1)", x.all(1 << hour, 1), 1);
        }
        same("courtier(0, 2^24 less 1)", x.courtier(0, 16777215), 1);
        same("its pairs, all", x.behind(0, 3), 16777215);
        for (int set : new int[] {-1, 16777216, LOW, HIGH, 1 << 25, 1 << 30}) {
            same("courtier(0, " + set + ")", x.courtier(0, set), OUTSIDE);
            same("courtier(1, " + set + ")", x.courtier(1, set), OUTSIDE);
            same("match(" + set + ", 1, -1)", x.match(set, 1, -1), OUTSIDE);
            same("all(" + set + ", 0)", x.all(set, 0), OUTSIDE);
        }
        same("refused: nobody came", x.told(1), 1);
        same("refused: the pairs stay", x.behind(0, 3), 16777215);
    }

    private static void noneOrOnePair() {
        due.sentence("each owns PAIRS: of each HOUR (0 to 23) none or one");
        GloveHours x = Play.court(EVERY_HOUR, EVERY_HOUR, 0);
        for (int hour : new int[] {0, 23}) {
            String gift = hour == 0 ? "00" : "23";
            Play.day(x, "A>B" + gift);
            same("a second one of " + hour + ", why", x.judge(1), 4);
            Play.day(x, "A>C" + gift);
            same("a first one of " + hour + ", why", x.judge(1), NONE);
            same("who gave owns none", x.wear(0, hour), NONE);
            same("who took owns one", x.wear(2, hour), 0);
        }
        same("of 23 hours", x.behind(0, 3), EVERY_HOUR >> 1);
    }

    private static void wearAtFirst() {
        due.sentence("with WEAR (0 at first)");
        GloveHours x = Play.court(0, 0, EVERY_HOUR);
        for (int hour = 0; hour < 24; hour++) {
            same("told(" + (300 + hour) + ")", x.told(300 + hour), 0);
            same("wear(2, " + hour + ")", x.wear(2, hour), 0);
            same("wear(1, " + hour + ")", x.wear(1, hour), NONE);
        }
    }

    private static void bareAtFirst() {
        due.sentence("or none (BARE, 24; at first)");
        GloveHours x = Play.court(1, 0, 0, 0, 0, EVERY_HOUR);
        for (int c = 0; c < 6; c++) {
            same("left of " + c, x.told(10 * (1 + c)), 24);
            same("right of " + c, x.told(10 * (1 + c) + 1), 24);
        }
        for (int hour = 0; hour < 24; hour++) {
            Play.done(x, Play.puts(5, 'l', hour));
            same("left of " + hour, x.told(60), hour);
            same("behind: left of " + hour, x.behind(5, 0), hour);
            same("the right stays", x.told(61), 24);
        }
        Play.done(x, "F0Fr00Fr23");
        same("right", x.told(61), 23);
        same("the left stays", x.told(60), 24);
    }

    private static void scandalsAtFirstAndAtMost() {
        due.sentence("SCANDALS (0 at first; 99 at most)");
        GloveHours x = Play.court(0, 0);
        same("at first", x.told(12), 0);
        Play.done(x, ".".repeat(60));
        Play.done(x, ".".repeat(38));
        same("98", x.told(12), 98);
        Play.done(x, ".");
        same("99", x.told(12), 99);
        Play.day(x, ".");
        same("99 behind", x.behind(0, 2), 99);
        Play.done(x, ".");
        same("99 yet", x.told(12), 99);
        x.courtier(1, 0);
        Play.done(x, ".");
        same("99 yet, of A", x.told(12), 99);
        same("1, of B", x.told(22), 1);
        // The first act of seed 0 is an hour that passes.
        same("99 yet in a reign, and 2 of B", x.reign(0, 1, 2), 101);
        same("the clock goes on", x.told(2), (60 + 38 + 3) % 24);
    }

    private static void clockIsAnHour() {
        due.sentence("CLOCK (an HOUR; 0 at first)");
        GloveHours x = new GloveHours();
        same("told(2)", x.told(2), 0);
        for (int hour = 1; hour < 24; hour++) {
            same("set(0, " + hour + ")", x.set(0, hour), hour - 1);
            same("told(2)", x.told(2), hour);
        }
        for (int hour : new int[] {-1, 24, 25, LOW, HIGH}) {
            same("set(0, " + hour + ")", x.set(0, hour), OUTSIDE);
        }
        same("refused: it stays", x.told(2), 23);
        same("set(0, 0)", x.set(0, 0), 23);
        same("set(0, 0) again", x.set(0, 0), 0);
        for (int which : new int[] {-1, 2, LOW, HIGH}) {
            same("set(" + which + ", 5)", x.set(which, 5), OUTSIDE);
        }
        same("refused: CLOCK stays", x.told(2), 0);
        same("refused: TEARS stay", x.told(3), 9);
    }

    private static void tearsOneToTwenty() {
        due.sentence("TEARS (1 to 20; 9 at first)");
        GloveHours x = new GloveHours();
        same("told(3)", x.told(3), 9);
        int before = 9;
        for (int tears = 1; tears <= 20; tears++) {
            same("set(1, " + tears + ")", x.set(1, tears), before);
            same("told(3)", x.told(3), tears);
            before = tears;
        }
        for (int tears : new int[] {0, 21, -1, 24, LOW, HIGH}) {
            same("set(1, " + tears + ")", x.set(1, tears), OUTSIDE);
        }
        same("refused: they stay", x.told(3), 20);
        same("CLOCK stays", x.told(2), 0);
    }

    private static void tornBySoMuchWear() {
        due.sentence("by so much WEAR a PAIR is torn");
        for (int tears = 1; tears <= 20; tears++) {
            GloveHours x = Play.court(hours(6));
            if (tears != 9) {
                x.set(1, tears);
            }
            Play.done(x, "Ar06" + "A!".repeat(tears - 1));
            same("told(106), one less than " + tears, x.told(106), tears - 1);
            same("told(11), one less than " + tears, x.told(11), 6);
            same("done(), one more", Play.done(x, "A!"), 1);
            same("told(106), at " + tears, x.told(106), NONE);
            same("told(11), at " + tears, x.told(11), BARE);
        }
    }

    private static void tearsToldLower() {
        due.sentence("one that has it already, TEARS being told lower, by its next DEED");
        for (int lower : new int[] {1, 2, 3}) {
            GloveHours x = Play.court(hours(6), 0);
            Play.done(x, "Ar06Al06A!A!A!");
            x.set(1, lower);
            same("it is there", x.told(106), 3);
            same("it is on his right", x.told(11), 6);
            same("it is on his left", x.told(10), 6);
            Play.done(x, ".A0Ar06");
            same("it is there though an hour passed and it was put on", x.told(106), 3);
            Play.done(x, "A>B06Br06Bl06");
            same("it is there though it was given", x.told(206), 3);
            Play.day(x, "B!");
            same("not behind its next deed", x.wear(1, 6), NONE);
            same("right behind its next deed", x.behind(1, 1), BARE);
            same("left behind its next deed", x.behind(1, 0), BARE);
        }
        GloveHours x = Play.court(hours(6));
        Play.done(x, "Ar06A!A!A!");
        x.set(1, 4);
        same("4 at the fourth", Play.done(x, "A!"), 1);
        same("torn", x.told(106), NONE);
        x.courtier(0, hours(6));
        Play.done(x, "Ar06A!A!A!");
        x.set(1, 5);
        same("5 at the fourth", Play.done(x, "A!"), 1);
        same("not yet", x.told(106), 4);
    }

    private static void noMoreAndBare() {
        due.sentence("it is no more, hands that wear it are BARE");
        GloveHours x = Play.court(hours(5, 6), hours(6));
        x.set(1, 1);
        Play.day(x, "Ar06Al06Br06Bl06A!");
        same("left", x.behind(0, 0), BARE);
        same("right", x.behind(0, 1), BARE);
        same("pairs", x.behind(0, 3), hours(5));
        same("another's left stays", x.behind(1, 0), 6);
        same("another's right stays", x.behind(1, 1), 6);
        same("another's pair stays", x.behind(1, 3), hours(6));
        Play.day(x, "Ar06Al05A!");
        same("a left of another hour stays", x.behind(0, 0), 5);
        Play.day(x, "Ar06A!Ar06");
        same("it can not be put on", x.judge(1), 3);
        Play.day(x, "Ar06A!A>B06");
        same("it can not be given", x.judge(1), 3);
        Play.day(x, "Ar06A!A!");
        same("no deed in it", x.judge(1), 5);
        Play.day(x, "Ar06A!B>A06");
        same("he may be given another one", x.judge(1), NONE);
        same("the other one's wear", x.wear(0, 6), 0);
        Play.day(x, "Ar06Br06AB");
        same("a promise tears both: the first", x.wear(0, 6), NONE);
        same("a promise tears both: the other", x.wear(1, 6), NONE);
        same("a promise is two though it tears", x.judge(2), 2);
    }

    private static void sixtySigns() {
        due.sentence("A DAY is a text on a PAD of up to 60 signs");
        GloveHours x = new GloveHours();
        for (int i = 1; i <= 60; i++) {
            same("say, " + i, x.say('.'), i);
            same("told(0)", x.told(0), i);
        }
        same("say, one more", x.say('.'), FULL);
        same("say, one more again", x.say('A'), FULL);
        same("OUTSIDE ahead of FULL", x.say(32), OUTSIDE);
        same("told(0)", x.told(0), 60);
        same("fault()", x.fault(), NONE);
        same("judge(2)", x.judge(2), 0);
        same("done()", x.done(), 60);
        same("say, behind done", x.say('.'), 1);
        Play.say(x, ".".repeat(58));
        same("say, the sixtieth again", x.say('!'), 60);
        same("say, one more once more", x.say('.'), FULL);
        same("fault at the last", x.fault(), 59);
        same("wipe()", x.wipe(), 60);
        same("say, behind wipe", x.say('.'), 1);
    }

    private static void codesOfSigns() {
        due.sentence("signs (codes 33 to 126)");
        GloveHours x = new GloveHours();
        for (int sign : new int[] {32, 127, 0, -1, 10, 128, 255, 65536 + 65, LOW, HIGH}) {
            same("say(" + sign + ")", x.say(sign), OUTSIDE);
        }
        same("told(0)", x.told(0), 0);
        for (int sign = 33; sign <= 126; sign++) {
            same("say(" + sign + ")", x.say(sign), 1);
            same("wipe()", x.wipe(), 1);
        }
    }

    private static void signsGo() {
        due.sentence("Signs go: how many there were.");
        GloveHours x = Play.court(1);
        same("of none", x.wipe(), 0);
        x.say('A');
        same("of one", x.wipe(), 1);
        same("none then", x.wipe(), 0);
        same("fault()", x.fault(), NONE);
        Play.say(x, "A0".repeat(30));
        same("of sixty", x.wipe(), 60);
        same("told(0)", x.told(0), 0);
        x.say('A');
        same("what went does not come again", x.fault(), 1);
    }

    private static int faultOf(String signs) {
        return Play.day(new GloveHours(), signs).fault();
    }

    private static void twoDigits() {
        due.sentence("two digits 00 to 23");
        for (String ahead : new String[] {"Al", "Fr", "A>F", ".B>C"}) {
            for (int number = 0; number < 100; number++) {
                String signs = ahead + number / 10 + number % 10;
                int fault = number < 24 ? NONE : ahead.length() + (number < 30 ? 1 : 0);
                same("fault() of " + signs, faultOf(signs), fault);
            }
        }
        for (int hour = 0; hour < 24; hour++) {
            GloveHours x = Play.court(1 << hour, 0);
            Play.day(x, Play.puts(0, 'r', hour));
            same("right of " + hour, x.behind(0, 1), hour);
            Play.day(x, Play.puts(0, 'l', hour));
            same("left of " + hour, x.behind(0, 0), hour);
            Play.day(x, "A>B" + Play.puts(0, 'r', hour).substring(2));
            same("given of " + hour, x.behind(1, 3), 1 << hour);
        }
    }

    /** Behind these signs each of the others is a fault there, and each of these is none. */
    private static void stand(String ahead, String those) {
        for (char sign = 33; sign <= 126; sign++) {
            int fault = faultOf(ahead + sign);
            boolean stands = fault != ahead.length();
            due.holds("fault() of " + ahead + sign + " told " + fault + ": as it can stand there",
                    stands == those.indexOf(sign) >= 0);
        }
    }

    private static void whatCanStandWhere() {
        due.sentence("the place (from 0 on) of the first sign that can not stand there");
        String letters = "ABCDEF";
        for (String ahead : new String[] {"", ".", "A0", "F!", "AB", "Ar23", "Bl00", "C>D19", "..A0"}) {
            stand(ahead, letters + ".");
        }
        for (char letter : letters.toCharArray()) {
            stand("" + letter, letters + "lr0!>");
            stand(letter + "r", "012");
            stand(letter + "l", "012");
            stand(letter + ">", letters);
            stand("A>" + letter, "012");
        }
        stand("Ar0", "0123456789");
        stand("Ar1", "0123456789");
        stand("Ar2", "0123");
        stand("Al2", "0123");
        stand("A>B0", "0123456789");
        stand("A>B1", "0123456789");
        stand("A>B2", "0123");
        same("fault() of x", faultOf("x"), 0);
        same("fault() of 59 . and x", faultOf(".".repeat(59) + "x"), 59);
    }

    private static void moreMustCome() {
        due.sentence("or the number of signs, if more must come");
        String[] begun = {"A", "Ar", "Al", "Ar0", "Ar1", "Ar2", "Al2", "A>", "A>B", "A>B0", "A>B2"};
        for (String signs : begun) {
            same("fault() of " + signs, faultOf(signs), signs.length());
            String full = ".".repeat(60 - signs.length()) + signs;
            same("fault() of a full pad that ends with " + signs, faultOf(full), 60);
        }
        GloveHours x = Play.say(new GloveHours(), ".".repeat(59) + "A");
        same("a full pad's day", x.judge(0), NO);
        same("a full pad's day, done", x.done(), NO);
        GloveHours y = Play.court(1);
        Play.day(y, ".".repeat(56) + "Ar00");
        same("a full pad that ends well", y.fault(), NONE);
        same("a full pad that ends well, done", y.done(), 57);
        same("its last act", y.told(11), 0);
    }

    private static void emptyPad() {
        due.sentence("an empty PAD has no FAULT: no ACTS");
        GloveHours x = Play.court(1, 2);
        for (int time = 0; time < 3; time++) {
            same("fault()", x.fault(), NONE);
            same("judge(0)", x.judge(0), NONE);
            same("judge(1)", x.judge(1), NONE);
            same("judge(2)", x.judge(2), 0);
            same("late(0)", x.late(0), NONE);
            same("late(1)", x.late(1), 0);
            same("deed(0, 0)", x.deed(0, 0), UNKNOWN);
            same("mended(0)", x.mended(0), 0);
            same("mended(1)", x.mended(1), NONE);
            same("behind(1, 3)", x.behind(1, 3), 2);
            same("done()", x.done(), 0);
            if (time == 0) {
                Play.day(x, "Ax");
                x.wipe();
            } else {
                Play.done(x, "A0");
            }
        }
    }

    private static void firstFaultStays() {
        due.sentence("a sign that is said changes what fault() tells");
        GloveHours x = new GloveHours();
        String signs = "A>B23A!xA";
        int[] faults = {1, 2, 3, 4, NONE, 6, NONE, 7, 7};
        for (int i = 0; i < faults.length; i++) {
            x.say(signs.charAt(i));
            same("fault() of " + signs.substring(0, i + 1), x.fault(), faults[i]);
        }
        x.say(127);
        same("fault() behind a sign that is refused", x.fault(), 7);
    }

    private static void bareHands() {
        due.sentence("0 (both hands are BARE then)");
        GloveHours x = Play.court(hours(0, 23), hours(0));
        for (String worn : new String[] {"", "Ar00", "Al00", "Ar00Al23", "Ar23Al23"}) {
            Play.day(x, worn + "Br00A0");
            same("judge(0) of " + worn + "Br00A0", x.judge(0), NONE);
            same("left", x.behind(0, 0), BARE);
            same("right", x.behind(0, 1), BARE);
            same("pairs stay", x.behind(0, 3), hours(0, 23));
            same("another's stays", x.behind(1, 1), 0);
        }
    }

    private static void deedByTheRight() {
        due.sentence("! (a DEED, by his right)");
        GloveHours x = Play.court(hours(0, 23));
        Play.day(x, "Al00A!");
        same("a left is not enough", x.judge(1), 5);
        Play.day(x, "Al00Ar23A!");
        same("its hour", x.deed(0, 0), 23);
        same("the right's wear", x.wear(0, 23), 1);
        same("the left's wear", x.wear(0, 0), 0);
        Play.day(x, "Al23Ar00A!");
        same("its hour, 0", x.deed(0, 0), 0);
    }

    private static void given() {
        due.sentence("he gives that PAIR, with its WEAR, to that one; his hands that wear it are BARE");
        GloveHours x = Play.court(hours(0, 23), 0, hours(23));
        Play.done(x, "Ar23Al23A!A!");
        Play.day(x, "A>B23");
        same("his left", x.behind(0, 0), BARE);
        same("his right", x.behind(0, 1), BARE);
        same("its wear", x.wear(1, 23), 2);
        same("not his", x.wear(0, 23), NONE);
        same("the taker's left", x.behind(1, 0), BARE);
        same("the taker's right", x.behind(1, 1), BARE);
        Play.day(x, "A>B00");
        same("his left of another pair", x.behind(0, 0), 23);
        same("his right of another pair", x.behind(0, 1), 23);
        Play.day(x, "A>B23B>A23");
        same("and back", x.wear(0, 23), 2);
        same("and back: he wears it no more", x.behind(0, 1), BARE);
        Play.day(x, "Cr23A>B23");
        same("a third one's stays on", x.behind(2, 1), 23);
        Play.day(x, "Ar00Al23A>B23");
        same("the other hand stays", x.behind(0, 1), 0);
        same("the hand that wore it", x.behind(0, 0), BARE);
    }

    private static void hourPasses() {
        due.sentence("the HOUR passes: who is not PROPER has a SCANDAL more; CLOCK is 1 more");
        GloveHours x = Play.court(EVERY_HOUR, EVERY_HOUR, EVERY_HOUR, 0);
        x.set(0, 7);
        Play.done(x, "Ar07Al07Br07Bl06Cr08Cl07");
        Play.day(x, ".");
        same("proper by both", x.behind(0, 2), 0);
        same("proper by the hour ahead", x.behind(1, 2), 0);
        same("not proper: the next hour's", x.behind(2, 2), 1);
        same("not proper: bare", x.behind(3, 2), 1);
        Play.day(x, "..");
        same("late in the second hour", x.behind(0, 2), 1);
        same("late in the second hour, too", x.behind(1, 2), 1);
        same("proper in the second hour", x.behind(2, 2), 1);
        same("acts", x.done(), 2);
        same("told(2)", x.told(2), 9);
    }

    private static void behindTwentyThree() {
        due.sentence("CLOCK is 1 more, behind 23 0");
        GloveHours x = new GloveHours();
        for (int hour = 0; hour < 24; hour++) {
            x.set(0, hour);
            Play.done(x, ".");
            same("told(2) behind " + hour, x.told(2), hour == 23 ? 0 : hour + 1);
        }
        x.set(0, 23);
        Play.done(x, ".".repeat(24));
        same("told(2) behind a whole day", x.told(2), 23);
        Play.done(x, ".".repeat(60));
        same("told(2) behind sixty hours", x.told(2), 11);
        GloveHours y = Play.court(EVERY_HOUR);
        y.set(0, 23);
        Play.day(y, "Ar23A!.A!Ar00A!");
        same("the clock of a deed at 23", y.deed(0, 1), 23);
        same("the clock of a deed behind it", y.deed(1, 1), 0);
        same("the first late one", y.late(0), 1);
        same("how many are late", y.late(1), 1);
    }

    private static void aDeedOfTheRight() {
        due.sentence("A DEED is of the HOUR of the right glove; its PAIR has 1 more WEAR.");
        for (int hour : new int[] {0, 1, 22, 23}) {
            GloveHours x = Play.court(EVERY_HOUR, EVERY_HOUR);
            Play.day(x, Play.puts(0, 'r', hour) + "A!" + Play.puts(1, 'r', hour) + "BA");
            for (int k = 0; k < 3; k++) {
                same("deed(" + k + ", 0)", x.deed(k, 0), hour);
            }
            same("two deeds' wear", x.wear(0, hour), 2);
            same("one deed's wear", x.wear(1, hour), 1);
            same("another pair's wear", x.wear(0, 12), 0);
        }
    }

    private static void properOrAhead() {
        due.sentence("PROPER is whose right is of CLOCK and whose left is, too, or of the HOUR ahead of it.");
        for (int clock = 0; clock < 24; clock++) {
            int ahead = clock == 0 ? 23 : clock - 1;
            GloveHours x = Play.court(EVERY_HOUR, EVERY_HOUR);
            x.set(0, clock);
            Play.done(x, Play.puts(0, 'r', clock));
            same("with a bare left, at " + clock, x.proper(), 0);
            for (int left = 0; left < 24; left++) {
                Play.done(x, Play.puts(0, 'l', left) + Play.puts(1, 'l', left));
                boolean proper = left == clock || left == ahead;
                same("with a left of " + left + ", at " + clock, x.proper(), proper ? 1 : 0);
            }
            GloveHours y = Play.court(EVERY_HOUR, EVERY_HOUR);
            y.set(0, clock);
            Play.done(y, Play.puts(0, 'l', clock) + Play.puts(1, 'l', ahead));
            same("with a bare right, at " + clock, y.proper(), 0);
            for (int right = 0; right < 24; right++) {
                Play.done(y, Play.puts(0, 'r', right) + Play.puts(1, 'r', right));
                same("with a right of " + right + ", at " + clock, y.proper(), right == clock ? 3 : 0);
            }
        }
    }

    private static void why(GloveHours x, String day, int act, int why) {
        Play.day(x, day);
        same("judge(0) of " + day, x.judge(0), act);
        same("judge(1) of " + day, x.judge(1), why);
        same("judge(2) of " + day, x.judge(2), STATE);
    }

    private static void leastReason() {
        due.sentence("An ACT can not be for the least of these reasons");
        // A owns 6 and 7, B owns 6 and 8, C nothing; D, E, F are not there.
        GloveHours x = Play.court(hours(6, 7), hours(6, 8), 0);
        for (String act : new String[] {"Dl06", "Dr06", "Dr01", "D0", "D!", "DA", "AD", "DD", "DE", "D>A06", "A>D06",
            "A>D01", "D>D06", "D>E06"}) {
            why(x, act, 0, 1);
        }
        for (String act : new String[] {"AA", "CC", "A>A06", "A>A01", "C>C06"}) {
            why(x, act, 0, 2);
        }
        for (String act : new String[] {"Al08", "Ar08", "Ar00", "Ar23", "A>B08", "A>C08", "C>A06", "C>B23"}) {
            why(x, act, 0, 3);
        }
        why(x, "A>B06", 0, 4);
        why(x, "B>A06", 0, 4);
        for (String act : new String[] {"A!", "AB", "BA", "AC"}) {
            why(x, act, 0, 5);
        }
        why(x, "Ar06AB", 1, 5);
        why(x, "Br06AB", 1, 5);
        why(x, "Ar06Bl06AB", 2, 5);
        why(x, "Ar06AA", 1, 2);
        why(x, "Ar06AD", 1, 1);
        why(x, "Ar07Br06AB", 2, 6);
        why(x, "Ar07Br06BA", 2, 6);
        why(x, "Ar06Br08Al06Bl06AB", 4, 6);
    }

    private static void firstActThatCanNotBe() {
        due.sentence("the first ACT (from 0 on) that can not be, why");
        GloveHours x = Play.court(hours(6));
        why(x, "B0", 0, 1);
        why(x, "A0B0Ar07", 1, 1);
        why(x, "Ar06A!Ar07B0", 2, 3);
        why(x, "." + "A0".repeat(28) + "A!", 29, 5);
        why(x, ".".repeat(58) + "A!", 58, 5);
        why(x, "A0".repeat(29) + "A!", 29, 5);
        Play.day(x, ".".repeat(60));
        same("sixty acts, judge(0)", x.judge(0), NONE);
        same("sixty acts, judge(1)", x.judge(1), NONE);
        Play.day(x, "Ar06" + "A!".repeat(9));
        same("nine deeds, judge(0)", x.judge(0), NONE);
        same("nine deeds, judge(2)", x.judge(2), 9);
        why(x, "Ar06" + "A!".repeat(10), 10, 5);
    }
}
