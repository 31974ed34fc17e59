import java.math.BigInteger;

/** The fourth part's sentences that name a boundary case, each by itself: sights, tears, Vespers, reigns, images (promises 21 to 30). */
public final class EdgesOfSights {
    private static final int UNKNOWN = Play.UNKNOWN, OUTSIDE = Play.OUTSIDE, STATE = Play.STATE;
    private static final int FULL = Play.FULL, NONE = Play.NONE;
    private static final int EVERY_HOUR = Play.EVERY_HOUR, BARE = Play.BARE;
    private static final int LOW = Play.LOW, HIGH = Play.HIGH;
    private static final Due due = new Due("EdgesOfSights");

    private EdgesOfSights() {
    }

    public static void main(String[] args) {
        eightSights();
        hoursOfSights();
        sightsGo();
        asHeDoesNow();
        ownedNone();
        allSights();
        nobodyFits();
        hourToAsk();
        leastHour();
        refusedAsk();
        tearNumbers();
        tearExactly();
        tearInLowestTerms();
        tearOfNothing();
        candles();
        whatIsOver();
        ofSeveralTheLeast();
        noPairs();
        reignNumbers();
        reignFromAllAsItIs();
        reignIfThatCanBe();
        scandalsThen();
        nothingIsDone();
        imagesKept();
        allButThePad();
        imageAnew();
        notKept();
        toldNumbers();
        toldOfWhoIsThere();
        toldOfPairs();
        due.end();
    }

    private static void same(String call, long got, long want) {
        due.same(call, got, want);
    }

    private static int hours(int... hours) {
        return Play.hours(hours);
    }

    private static void eightSights() {
        due.sentence("SIGHTS, 8 at most");
        GloveHours x = Play.court(1, 2);
        same("told(4) at first", x.told(4), 0);
        for (int i = 1; i <= 8; i++) {
            same("seen, " + i, x.seen(0, true), i);
            same("told(4)", x.told(4), i);
        }
        same("seen, one more", x.seen(0, true), FULL);
        same("seen, one more of another hour", x.seen(1, true), FULL);
        same("seen, one more not owned", x.seen(0, false), FULL);
        same("refused: told(4)", x.told(4), 8);
        same("refused: wore()", x.wore(), 1);
        same("OUTSIDE ahead of FULL", x.seen(24, true), OUTSIDE);
        same("OUTSIDE ahead of FULL, not owned", x.seen(-1, false), OUTSIDE);
        same("forget()", x.forget(), 8);
        for (int i = 1; i <= 8; i++) {
            same("seen behind forget, " + i, x.seen(i, i == 3), i);
        }
        same("seen, one more again", x.seen(0, false), FULL);
    }

    private static void hoursOfSights() {
        due.sentence("A SIGHT more: how many. OUTSIDE: the HOUR; FULL.");
        GloveHours x = Play.court(hours(0), hours(23), hours(0, 23));
        for (int hour : new int[] {-1, 24, 32, LOW, HIGH}) {
            same("seen(" + hour + ", true)", x.seen(hour, true), OUTSIDE);
            same("seen(" + hour + ", false)", x.seen(hour, false), OUTSIDE);
        }
        same("told(4)", x.told(4), 0);
        same("wore()", x.wore(), 7);
        same("seen(0, true)", x.seen(0, true), 1);
        same("wore() of 0", x.wore(), 5);
        same("seen(23, true)", x.seen(23, true), 2);
        same("wore() of both", x.wore(), 4);
        x.forget();
        same("seen(23, false)", x.seen(23, false), 1);
        same("wore() of no 23", x.wore(), 1);
        same("seen(0, false)", x.seen(0, false), 2);
        same("wore() of neither", x.wore(), 0);
    }

    private static void sightsGo() {
        due.sentence("SIGHTS go: how many there were.");
        GloveHours x = Play.court(1, 2);
        same("of none", x.forget(), 0);
        x.seen(0, true);
        same("of one", x.forget(), 1);
        same("wore() then", x.wore(), 3);
        x.seen(0, false);
        same("of one not owned", x.forget(), 1);
        same("wore() then", x.wore(), 3);
        for (int i = 0; i < 8; i++) {
            x.seen(0, i % 2 == 0);
        }
        same("of eight", x.forget(), 8);
        same("told(4)", x.told(4), 0);
        same("ask(1)", x.ask(1), 1);
    }

    private static void asHeDoesNow() {
        due.sentence("was seen in a glove of an HOUR (he owned the PAIR as he does now)");
        GloveHours x = Play.court(hours(5), 0, EVERY_HOUR);
        x.seen(5, true);
        same("wore()", x.wore(), 5);
        Play.day(x, "A>B05");
        same("not behind the pad", x.wore(), 5);
        x.done();
        same("behind a gift", x.wore(), 6);
        x.set(1, 1);
        Play.done(x, "Br05B!");
        same("when it is torn", x.wore(), 4);
        x.courtier(2, 0);
        same("when he is there anew without it", x.wore(), 0);
        x.courtier(3, 32);
        same("when one comes with it", x.wore(), 8);
        x.leave(3);
        same("when he left", x.wore(), 0);
    }

    private static void ownedNone() {
        due.sentence("or he owned none of it");
        GloveHours x = Play.court(hours(5), 0, EVERY_HOUR, hours(4, 6));
        x.seen(5, false);
        same("wore()", x.wore(), 10);
        x.seen(5, false);
        same("wore() of it again", x.wore(), 10);
        x.seen(4, false);
        same("wore() of 4, too", x.wore(), 2);
        for (int hour : new int[] {0, 1, 2, 3, 23}) {
            x.seen(hour, false);
        }
        same("wore() of eight", x.wore(), 2);
        same("told(4)", x.told(4), 8);
    }

    private static void allSights() {
        due.sentence("WORE: COURTIERS by whom all SIGHTS are so, as bits.");
        GloveHours x = new GloveHours();
        for (int c = 0; c < 6; c++) {
            x.courtier(c, hours(c, 23));
            same("without sights", x.wore(), (2 << c) - 1);
        }
        x.seen(23, true);
        same("all of them", x.wore(), 63);
        x.seen(5, true);
        same("F", x.wore(), 32);
        x.seen(0, true);
        same("nobody owns both", x.wore(), 0);
        x.forget();
        x.seen(0, false);
        same("all but A", x.wore(), 62);
        x.seen(0, true);
        same("it is so by nobody", x.wore(), 0);
    }

    private static void nobodyFits() {
        due.sentence("ASK: the HOUR (what = 0), how many (1); NONE: nobody fits.");
        GloveHours x = new GloveHours();
        for (int what = 0; what < 2; what++) {
            same("ask(" + what + ") of nobody", x.ask(what), NONE);
        }
        x.courtier(5, EVERY_HOUR);
        same("ask(0) of one", x.ask(0), 0);
        same("ask(1) of one", x.ask(1), 1);
        x.seen(0, false);
        for (int what = 0; what < 2; what++) {
            same("ask(" + what + ") when he does not fit", x.ask(what), NONE);
        }
        x.forget();
        x.leave(5);
        same("ask(0) when he left", x.ask(0), NONE);
    }

    private static void hourToAsk() {
        due.sentence("the HOUR to ask of next, whether he owns it, so that fewest of these are left at the most");
        GloveHours x = Play.court(hours(0, 1, 22), hours(0, 1), hours(0, 1), hours(0, 23), hours(0, 23), hours(0, 23));
        same("ask(0): three and three", x.ask(0), 1);
        same("ask(1): three and three", x.ask(1), 3);
        x.seen(23, false);
        same("ask(0): one and two", x.ask(0), 22);
        same("ask(1): one and two", x.ask(1), 2);
        x.seen(22, false);
        same("ask(0): two alike", x.ask(0), 0);
        same("ask(1): two alike", x.ask(1), 2);
        x.courtier(2, hours(0, 23));
        same("ask(0): one", x.ask(0), 0);
        same("ask(1): one", x.ask(1), 1);
        GloveHours y = Play.court(0, 0, 0, hours(23), hours(0), hours(0));
        same("ask(0): two and four goes ahead of one and five", y.ask(0), 0);
        same("ask(1): two and four", y.ask(1), 4);
        GloveHours six = Play.court(hours(23), hours(23), hours(23), hours(23), hours(23), hours(23));
        same("ask(0): six alike", six.ask(0), 0);
        same("ask(1): six alike", six.ask(1), 6);
        six.courtier(5, hours(22, 23));
        same("ask(0): one of six", six.ask(0), 22);
        same("ask(1): one of six", six.ask(1), 5);
    }

    private static void leastHour() {
        due.sentence("so that fewest of these are left at the most: the least; how many; NONE");
        GloveHours x = Play.court(hours(7, 8, 23), hours(7, 9));
        same("ask(0)", x.ask(0), 8);
        x.courtier(0, hours(7, 23));
        same("ask(0) without 8", x.ask(0), 9);
        x.courtier(1, hours(7));
        same("ask(0) of 23 alone", x.ask(0), 23);
        same("ask(1)", x.ask(1), 1);
        x.courtier(1, hours(0, 7));
        same("ask(0) of 0", x.ask(0), 0);
        x.courtier(0, hours(0, 7));
        same("ask(0) of two alike", x.ask(0), 0);
        same("ask(1) of two alike", x.ask(1), 2);
    }

    private static void refusedAsk() {
        due.sentence("NONE: nobody fits. OUTSIDE.");
        GloveHours x = new GloveHours();
        for (int time = 0; time < 2; time++) {
            for (int what : new int[] {-1, 2, LOW, HIGH}) {
                same("ask(" + what + ")", x.ask(what), OUTSIDE);
            }
            x.courtier(0, 1);
        }
    }

    private static void tearNumbers() {
        due.sentence("n PAIRS of an HOUR (0 to 9), m DEEDS (0 to 12), one behind another, each in a PAIR that there is yet (else it is not done), tears it with t tenths (0 to 10)");
        GloveHours x = new GloveHours();
        long refused = -1000000000000000002L;
        int[] least = {0, 0, 0, 0, 0};
        int[] greatest = {9, 12, 10, 1, 1};
        for (int place = 0; place < 5; place++) {
            for (int out : new int[] {least[place] - 1, greatest[place] + 1, LOW, HIGH}) {
                int[] five = {1, 1, 1, 0, 0};
                five[place] = out;
                same("tear with " + out + " at " + place, x.tear(five[0], five[1], five[2], five[3], five[4]), refused);
            }
            for (int in : new int[] {least[place], greatest[place]}) {
                int[] five = {1, 1, 1, 0, 0};
                five[place] = in;
                due.holds("tear with " + in + " at " + place, x.tear(five[0], five[1], five[2], five[3], five[4]) >= 0);
            }
        }
        same("all outside", x.tear(-1, 13, 11, 2, 2), refused);
        same("the greatest, upper", x.tear(9, 12, 10, 1, 0), 9);
        same("the greatest, lower", x.tear(9, 12, 10, 1, 1), 1);
    }

    /** Over 10 to the m: by how many of the deeds tear, each way by itself. */
    private static BigInteger[] exactly(int n, int m, int t) {
        BigInteger whole = BigInteger.TEN.pow(m);
        BigInteger someLeft = BigInteger.ZERO;
        BigInteger mean = BigInteger.ZERO;
        for (int done = 0; done <= m; done++) {
            // The deed numbered done is done if fewer than n tore before it.
            BigInteger fewer = BigInteger.ZERO;
            for (int torn = 0; torn < n && torn <= done; torn++) {
                BigInteger ways = choose(done, torn).multiply(BigInteger.valueOf(t).pow(torn))
                        .multiply(BigInteger.valueOf(10 - t).pow(done - torn));
                fewer = fewer.add(ways);
            }
            BigInteger share = fewer.multiply(BigInteger.TEN.pow(m - done));
            if (done < m) {
                mean = mean.add(share);
            } else {
                someLeft = share;
            }
        }
        return new BigInteger[] {someLeft, mean, whole};
    }

    private static BigInteger choose(int of, int some) {
        BigInteger ways = BigInteger.ONE;
        for (int i = 0; i < some; i++) {
            ways = ways.multiply(BigInteger.valueOf(of - i)).divide(BigInteger.valueOf(i + 1));
        }
        return ways;
    }

    private static void tearExactly() {
        due.sentence("gloves that tear by chance, exactly");
        for (int n = 0; n <= 9; n++) {
            for (int m = 0; m <= 12; m++) {
                GloveHours x = new GloveHours();
                for (int t = 0; t <= 10; t++) {
                    BigInteger[] exact = exactly(n, m, t);
                    for (int what = 0; what < 2; what++) {
                        BigInteger divisor = exact[what].gcd(exact[2]);
                        String name = "tear(" + n + ", " + m + ", " + t + ", " + what;
                        same(name + ", 0)", x.tear(n, m, t, what, 0), exact[what].divide(divisor).longValueExact());
                        same(name + ", 1)", x.tear(n, m, t, what, 1), exact[2].divide(divisor).longValueExact());
                    }
                }
            }
        }
    }

    private static void isFraction(int n, int m, int t, int what, long upper, long lower) {
        GloveHours x = new GloveHours();
        String name = "tear(" + n + ", " + m + ", " + t + ", " + what;
        same(name + ", 0)", x.tear(n, m, t, what, 0), upper);
        same(name + ", 1)", x.tear(n, m, t, what, 1), lower);
    }

    private static void tearInLowestTerms() {
        due.sentence("Fractions are told in lowest terms by part: 0 the upper, 1 the lower number; refused with GONE and the refusal.");
        isFraction(1, 1, 5, 0, 1, 2);
        isFraction(1, 1, 4, 0, 3, 5);
        isFraction(1, 1, 1, 0, 9, 10);
        isFraction(1, 2, 5, 1, 3, 2);
        isFraction(2, 2, 5, 0, 3, 4);
        isFraction(1, 12, 9, 0, 1, 1000000000000L);
        isFraction(1, 12, 1, 0, 282429536481L, 1000000000000L);
        GloveHours x = new GloveHours();
        same("refused", x.tear(10, 0, 0, 0, 0), GloveHours.GONE + GloveHours.OUTSIDE);
        same("refused, lower", x.tear(10, 0, 0, 0, 1), GloveHours.GONE + GloveHours.OUTSIDE);
    }

    private static void tearOfNothing() {
        due.sentence("that some PAIR is left; the mean of DEEDS that are done");
        for (int t : new int[] {0, 1, 10}) {
            isFraction(0, 0, t, 0, 0, 1);
            isFraction(0, 0, t, 1, 0, 1);
            isFraction(0, 12, t, 0, 0, 1);
            isFraction(0, 12, t, 1, 0, 1);
            isFraction(1, 0, t, 0, 1, 1);
            isFraction(9, 0, t, 1, 0, 1);
        }
        isFraction(1, 12, 0, 0, 1, 1);
        isFraction(1, 12, 0, 1, 12, 1);
        isFraction(1, 1, 10, 0, 0, 1);
        isFraction(1, 12, 10, 1, 1, 1);
        isFraction(9, 9, 10, 0, 0, 1);
        isFraction(9, 8, 10, 0, 1, 1);
        isFraction(9, 8, 10, 1, 8, 1);
        isFraction(9, 12, 10, 1, 9, 1);
        isFraction(9, 8, 9, 0, 1, 1);
        isFraction(9, 9, 9, 0, 612579511, 1000000000);
    }

    private static void candles() {
        due.sentence("c candles (0 to 999) are shared to COURTIERS by who owns more PAIRS");
        GloveHours x = Play.court(hours(0, 1, 2), hours(23), 0);
        for (int c : new int[] {-1, 1000, LOW, HIGH}) {
            same("vespers(0, " + c + ")", x.vespers(0, c), OUTSIDE);
            same("vespers(3, " + c + ")", x.vespers(3, c), UNKNOWN);
            same("vespers(-1, " + c + ")", x.vespers(-1, c), UNKNOWN);
        }
        same("vespers(0, 0)", x.vespers(0, 0), 0);
        same("vespers(2, 0)", x.vespers(2, 0), 0);
        same("vespers(0, 999)", x.vespers(0, 999), 749);
        same("vespers(1, 999)", x.vespers(1, 999), 249);
        same("vespers(2, 999)", x.vespers(2, 999), 1);
        same("vespers(0, 1)", x.vespers(0, 1), 0);
        same("vespers(1, 1)", x.vespers(1, 1), 0);
        same("vespers(2, 1)", x.vespers(2, 1), 1);
        same("vespers(0, 4)", x.vespers(0, 4), 3);
        same("vespers(3, 4)", x.vespers(3, 4), UNKNOWN);
        same("vespers(6, 4)", x.vespers(6, 4), UNKNOWN);
        int[] pairs = {EVERY_HOUR, hours(0, 1, 2, 3, 4), 0, hours(23), hours(7, 9), EVERY_HOUR ^ 1};
        GloveHours y = Play.court(pairs);
        for (int c = 0; c <= 999; c += c < 60 ? 1 : 47) {
            int sum = 0;
            for (int who = 0; who < 6; who++) {
                sum += y.vespers(who, c);
            }
            same("all together of " + c, sum, c);
        }
    }

    private static void whatIsOver() {
        due.sentence("what is over, one each, to those with fewest PAIRS first (with none, too");
        GloveHours x = Play.court(hours(0, 1, 2), hours(0, 1), hours(0), 0, 0, hours(0, 1, 2, 3, 4));
        // 11 pairs: of 10 candles 2, 1, 0, 0, 0, 4 and three over.
        int[] shares = {2, 1, 1, 1, 1, 4};
        for (int who = 0; who < 6; who++) {
            same("vespers(" + who + ", 10)", x.vespers(who, 10), shares[who]);
        }
        x.leave(3);
        int[] without = {2, 2, 1, UNKNOWN, 1, 4};
        for (int who = 0; who < 6; who++) {
            same("vespers(" + who + ", 10) without D", x.vespers(who, 10), without[who]);
        }
        // Of 11 nothing is over.
        for (int who = 0; who < 6; who++) {
            int own = new int[] {3, 2, 1, UNKNOWN, 0, 5}[who];
            same("vespers(" + who + ", 11)", x.vespers(who, 11), own);
        }
    }

    private static void ofSeveralTheLeast() {
        due.sentence("of several the least");
        GloveHours x = Play.court(1, 1, 1, 1, 1, 1);
        for (int c = 0; c <= 13; c++) {
            for (int who = 0; who < 6; who++) {
                same("vespers(" + who + ", " + c + ")", x.vespers(who, c), c / 6 + (who < c % 6 ? 1 : 0));
            }
        }
        GloveHours y = Play.court(hours(1, 2, 3), 0, 0, 0);
        same("nothing is over", y.vespers(1, 10), 0);
        y.courtier(4, hours(1));
        y.courtier(5, hours(1, 2, 3));
        // 7 pairs: of 10 candles 4, 0, 0, 0, 1, 4 and one over.
        same("the least of three", y.vespers(1, 10), 1);
        same("the second of three", y.vespers(2, 10), 0);
    }

    private static void noPairs() {
        due.sentence("how many one gets (0: there are no PAIRS)");
        GloveHours x = Play.court(0, 0, 0, 0, 0, 0);
        for (int who = 0; who < 6; who++) {
            same("vespers(" + who + ", 999)", x.vespers(who, 999), 0);
            same("vespers(" + who + ", 0)", x.vespers(who, 0), 0);
            same("vespers(" + who + ", 1000)", x.vespers(who, 1000), OUTSIDE);
        }
        x.courtier(0, 1);
        same("with one pair", x.vespers(0, 999), 999);
        x.leave(0);
        same("when it left", x.vespers(1, 999), 0);
        same("of who left", x.vespers(0, 999), UNKNOWN);
        x.set(1, 1);
        x.courtier(0, 1);
        Play.day(x, "Ar00A!");
        same("now, not behind the pad", x.vespers(0, 999), 999);
        x.done();
        same("when it is torn", x.vespers(0, 999), 0);
    }

    private static void reignNumbers() {
        due.sentence("A REIGN by a seed (0 to 9999) of m ACTS (1 to 99)");
        GloveHours x = Play.court(EVERY_HOUR);
        for (int what = 0; what < 3; what++) {
            for (int seed : new int[] {-1, 10000, LOW, HIGH}) {
                same("reign(" + seed + ", 1, " + what + ")", x.reign(seed, 1, what), OUTSIDE);
            }
            for (int m : new int[] {0, 100, -1, LOW, HIGH}) {
                same("reign(0, " + m + ", " + what + ")", x.reign(0, m, what), OUTSIDE);
            }
            for (int seed : new int[] {0, 9999}) {
                due.holds("reign(" + seed + ", 1, " + what + ")", x.reign(seed, 1, what) >= 0);
                due.holds("reign(" + seed + ", 99, " + what + ")", x.reign(seed, 99, what) >= 0);
            }
        }
        for (int what : new int[] {-1, 3, LOW, HIGH}) {
            same("reign(0, 1, " + what + ")", x.reign(0, 1, what), OUTSIDE);
        }
        // Of seed 0 the first hour passes at once; each of the others is an act by itself.
        int passed = 0;
        int draw = 0;
        for (int m = 1; m <= 99; m++) {
            draw = (75 * draw + 74) % 65537;
            passed += draw / 6 % 4 == 0 ? 1 : 0;
            same("reign(0, " + m + ", 2) of who has no pairs", Play.court(0).reign(0, m, 2), passed);
        }
    }

    /** The draws by hand, on an object of one's own: what can not be is left out. */
    private static void compareReign(int[] pairs, int clock, int tears, String before, int seed, int m) {
        GloveHours x = Play.court(pairs);
        GloveHours slow = Play.court(pairs);
        for (GloveHours one : new GloveHours[] {x, slow}) {
            one.set(0, clock);
            one.set(1, tears);
            Play.done(one, before);
        }
        int draw = seed;
        int deeds = 0;
        int late = 0;
        for (int act = 0; act < m; act++) {
            draw = (75 * draw + 74) % 65537;
            int who = draw % 6;
            int hour = draw / 24 % 24;
            String[] signs = {".", Play.puts(who, 'r', hour), Play.puts(who, 'l', hour), Play.letter(who) + "!"};
            Play.day(slow, signs[draw / 6 % 4]);
            if (slow.judge(0) == NONE) {
                deeds += slow.judge(2);
                late += slow.late(1);
                slow.done();
            }
        }
        int scandals = 0;
        for (int c = 0; c < pairs.length; c++) {
            scandals += slow.told(10 * (1 + c) + 2);
        }
        String name = "reign(" + seed + ", " + m + ", ";
        same(name + "0)", x.reign(seed, m, 0), deeds);
        same(name + "1)", x.reign(seed, m, 1), late);
        same(name + "2)", x.reign(seed, m, 2), scandals);
    }

    private static void reignFromAllAsItIs() {
        due.sentence("from all as it is");
        for (int seed : new int[] {0, 1, 4999, 9998, 9999}) {
            // An object is good for 512 calls, and an act takes up to nine.
            for (int m : new int[] {1, 2, 20, 45}) {
                compareReign(new int[] {EVERY_HOUR, EVERY_HOUR, EVERY_HOUR, EVERY_HOUR, EVERY_HOUR, EVERY_HOUR}, 0, 9,
                        "", seed, m);
                compareReign(new int[] {EVERY_HOUR, EVERY_HOUR}, 23, 1, "Ar23Al22A!Br00B!.", seed, m);
                compareReign(new int[] {0xF0F0F0, 0, 0x0F0F0F, 7}, 12, 2, "Ar04Ar05Cr00C!A!.", seed, m);
            }
        }
    }

    private static void reignIfThatCanBe() {
        due.sentence("each if that can be: DEEDS");
        GloveHours nobody = new GloveHours();
        for (int what = 0; what < 3; what++) {
            same("reign(0, 99, " + what + ") of nobody", nobody.reign(0, 99, what), 0);
            same("reign(9999, 99, " + what + ") of nobody", nobody.reign(9999, 99, what), 0);
        }
        GloveHours x = Play.court(0, 0, 0, 0, 0, 0);
        same("reign(77, 99, 0) without pairs", x.reign(77, 99, 0), 0);
        same("reign(77, 99, 1) without pairs", x.reign(77, 99, 1), 0);
        GloveHours all = Play.court(EVERY_HOUR, EVERY_HOUR, EVERY_HOUR, EVERY_HOUR, EVERY_HOUR, EVERY_HOUR);
        Play.done(all, "Ar00Br00Cr00Dr00Er00Fr00");
        int deeds = 0;
        for (int m = 1; m <= 99; m++) {
            int then = all.reign(1, m, 0);
            due.holds("reign(1, " + m + ", 0) is as many or one more", then == deeds || then == deeds + 1);
            deeds = then;
        }
        due.holds("reign(1, 99, 0) has some", deeds > 5);
    }

    private static void scandalsThen() {
        due.sentence("SCANDALS of all together then");
        GloveHours x = Play.court(0, 0, 0, 0, 0, 0);
        Play.done(x, ".".repeat(60));
        Play.done(x, ".".repeat(38));
        // Of seed 0 the first hour passes at once.
        same("reign(0, 1, 2) of 98 each", x.reign(0, 1, 2), 6 * 99);
        same("reign(0, 99, 2) of 98 each", x.reign(0, 99, 2), 6 * 99);
        x.leave(0);
        same("reign(0, 99, 2) without A", x.reign(0, 99, 2), 5 * 99);
        x.courtier(0, 0);
        same("reign(0, 1, 2) with A anew", x.reign(0, 1, 2), 5 * 99 + 1);
    }

    private static void nothingIsDone() {
        due.sentence("Nothing is DONE in fact.");
        GloveHours x = Play.court(EVERY_HOUR, EVERY_HOUR, EVERY_HOUR, EVERY_HOUR, EVERY_HOUR, EVERY_HOUR);
        Play.done(x, "Ar00Br00Cr00Dr00Er00Fr00");
        Play.day(x, "A!Ax");
        for (int what = 0; what < 3; what++) {
            int first = x.reign(5, 99, what);
            same("reign(5, 99, " + what + ") again", x.reign(5, 99, what), first);
        }
        same("told(0)", x.told(0), 4);
        same("fault()", x.fault(), 3);
        same("told(2)", x.told(2), 0);
        for (int c = 0; c < 6; c++) {
            same("left of " + c, x.told(10 * (1 + c)), BARE);
            same("right of " + c, x.told(10 * (1 + c) + 1), 0);
            same("scandals of " + c, x.told(10 * (1 + c) + 2), 0);
            same("wear of " + c, x.told(100 * (1 + c)), 0);
        }
        Play.day(x, "A!");
        int late = x.late(1);
        x.reign(5, 99, 0);
        same("late(1) behind a reign", x.late(1), late);
        same("judge(2) behind a reign", x.judge(2), 1);
    }

    private static void imagesKept() {
        due.sentence("All but the PAD is kept in an IMAGE (0, 1): 1. OUTSIDE.");
        GloveHours x = Play.court(1);
        for (int k : new int[] {-1, 2, LOW, HIGH}) {
            same("image(" + k + ")", x.image(k), OUTSIDE);
            same("restore(" + k + ")", x.restore(k), OUTSIDE);
        }
        same("restore(0)", x.restore(0), STATE);
        same("restore(1)", x.restore(1), STATE);
        same("image(0)", x.image(0), 1);
        same("image(0) again", x.image(0), 1);
        same("restore(1) yet", x.restore(1), STATE);
        same("image(1)", x.image(1), 1);
        same("restore(0)", x.restore(0), 1);
        same("restore(1)", x.restore(1), 1);
        same("restore(2) yet", x.restore(2), OUTSIDE);
        same("told(1)", x.told(1), 1);
    }

    private static void allButThePad() {
        due.sentence("It is as it was when it was kept: 1.");
        GloveHours x = Play.court(EVERY_HOUR, hours(3), 0);
        x.set(0, 23);
        x.set(1, 20);
        Play.done(x, "Ar23Al22A!A!B>C03.");
        x.seen(3, true);
        x.seen(4, false);
        Play.day(x, "A!");
        x.image(0);
        Play.done(x, "A0A>B05.....");
        x.set(0, 5);
        x.set(1, 1);
        x.forget();
        x.leave(2);
        x.courtier(5, 1);
        x.courtier(0, 1);
        Play.day(x, "A");
        same("restore(0)", x.restore(0), 1);
        int[] few = {1, 7, 0, 20, 2};
        for (int what = 0; what < few.length; what++) {
            same("told(" + what + ")", x.told(what), few[what]);
        }
        int[][] hands = {{22, 23, 0}, {24, 24, 1}, {24, 24, 1}};
        for (int c = 0; c < 3; c++) {
            for (int what = 0; what < 3; what++) {
                same("told(" + (10 * (1 + c) + what) + ")", x.told(10 * (1 + c) + what), hands[c][what]);
            }
            for (int hour = 0; hour < 24; hour++) {
                int wear = c == 0 ? hour == 23 ? 2 : 0 : c == 2 && hour == 3 ? 0 : NONE;
                same("told(" + (100 * (1 + c) + hour) + ")", x.told(100 * (1 + c) + hour), wear);
            }
        }
        same("told(60)", x.told(60), OUTSIDE);
        same("wore()", x.wore(), 4);
        same("the pad stays: fault()", x.fault(), 1);
        x.say('!');
        same("the pad's day is of what is restored", x.behind(0, 1), 23);
        same("its wear", x.wear(0, 23), 3);
    }

    private static void imageAnew() {
        due.sentence("is kept in an IMAGE (0, 1)");
        GloveHours x = Play.court(1);
        x.set(0, 10);
        x.image(0);
        x.set(0, 11);
        x.image(1);
        x.set(0, 12);
        same("restore(0)", x.restore(0), 1);
        same("told(2) of 0", x.told(2), 10);
        same("restore(1)", x.restore(1), 1);
        same("told(2) of 1", x.told(2), 11);
        x.image(0);
        x.set(0, 13);
        x.restore(0);
        same("told(2) of 0 anew", x.told(2), 11);
        x.set(0, 14);
        Play.done(x, "Ar00A!.");
        x.seen(0, true);
        x.restore(1);
        same("told(2) of 1 again", x.told(2), 11);
        same("told(100) of 1 again", x.told(100), 0);
        same("told(11) of 1 again", x.told(11), BARE);
        same("told(4) of 1 again", x.told(4), 0);
        x.leave(0);
        x.image(0);
        x.courtier(0, 3);
        x.restore(0);
        same("an image of nobody", x.told(1), 0);
        x.restore(1);
        same("an image of A yet", x.told(1), 1);
    }

    private static void notKept() {
        due.sentence("OUTSIDE; STATE: it was not.");
        GloveHours x = Play.court(5);
        x.set(0, 3);
        x.seen(0, true);
        Play.day(x, "A!");
        same("restore(0)", x.restore(0), STATE);
        same("restore(1)", x.restore(1), STATE);
        same("refused: told(1)", x.told(1), 1);
        same("refused: told(2)", x.told(2), 3);
        same("refused: told(4)", x.told(4), 1);
        same("refused: told(0)", x.told(0), 2);
        x.image(1);
        same("restore(0) with 1 kept", x.restore(0), STATE);
        same("restore(1) with 1 kept", x.restore(1), 1);
        same("restore(0) yet", x.restore(0), STATE);
    }

    private static void toldNumbers() {
        due.sentence("0 signs, 1 COURTIERS (bits), 2 CLOCK, 3 TEARS, 4 SIGHTS");
        for (int from = -100; from < 1100; from += 300) {
            GloveHours nobody = new GloveHours();
            GloveHours six = Play.court(1, 1, 1, 1, 1, 1);
            for (int what = from; what < from + 300; what++) {
                boolean few = what >= 0 && what <= 4;
                boolean hand = what >= 10 && what < 70 && what % 10 < 3;
                boolean pair = what >= 100 && what < 700 && what % 100 < 24;
                same("told(" + what + ") of nobody", nobody.told(what), what == 3 ? 9 : few ? 0 : OUTSIDE);
                due.holds("told(" + what + ") of six, told or OUTSIDE",
                        (six.told(what) != OUTSIDE) == (few || hand || pair));
            }
        }
        GloveHours x = Play.court(1, 0, 1);
        for (int what : new int[] {LOW, HIGH, LOW + 10, HIGH - 7, 1000, 1100, 6400, 7423, -10, -8, -100, -76}) {
            same("told(" + what + ")", x.told(what), OUTSIDE);
        }
    }

    private static void toldOfWhoIsThere() {
        due.sentence("10 times (1 and a COURTIER who is there) and 0 left, 1 right, 2 SCANDALS");
        for (int c = 0; c < 6; c++) {
            GloveHours x = new GloveHours();
            x.courtier(c, EVERY_HOUR);
            Play.done(x, Play.puts(c, 'l', 23) + Play.puts(c, 'r', 0) + "..");
            for (int other = 0; other < 6; other++) {
                int[] told = other == c ? new int[] {23, 0, 1} : new int[] {OUTSIDE, OUTSIDE, OUTSIDE};
                for (int what = 0; what < 3; what++) {
                    same("told(" + (10 * (1 + other) + what) + ") of " + c, x.told(10 * (1 + other) + what), told[what]);
                }
                same("told(" + (10 * (1 + other) + 3) + ")", x.told(10 * (1 + other) + 3), OUTSIDE);
                same("told(" + (10 * (1 + other) - 1) + ")", x.told(10 * (1 + other) - 1), OUTSIDE);
            }
            x.leave(c);
            same("told of who left", x.told(10 * (1 + c)), OUTSIDE);
        }
    }

    private static void toldOfPairs() {
        due.sentence("100 times (1 and a COURTIER who is there) and an HOUR: WEAR of his PAIR (NONE). OUTSIDE.");
        for (int c = 0; c < 6; c++) {
            GloveHours x = new GloveHours();
            x.courtier(c, hours(0, 23));
            Play.done(x, Play.puts(c, 'r', 23) + Play.letter(c) + "!");
            for (int other = 0; other < 6; other++) {
                int of = 100 * (1 + other);
                same("told(" + of + ")", x.told(of), other == c ? 0 : OUTSIDE);
                same("told(" + (of + 1) + ")", x.told(of + 1), other == c ? NONE : OUTSIDE);
                same("told(" + (of + 22) + ")", x.told(of + 22), other == c ? NONE : OUTSIDE);
                same("told(" + (of + 23) + ")", x.told(of + 23), other == c ? 1 : OUTSIDE);
                same("told(" + (of + 24) + ")", x.told(of + 24), OUTSIDE);
                same("told(" + (of + 99) + ")", x.told(of + 99), OUTSIDE);
            }
            x.leave(c);
            same("told of who left", x.told(100 * (1 + c)), OUTSIDE);
        }
    }
}
