public final class GloveHours {
    public static final int UNKNOWN = -1, OUTSIDE = -2, STATE = -3, FULL = -4, NO = -5, NONE = -6;
    public static final long GONE = -1000000000000000000L;

    private static final int COURTIERS = 6;
    private static final int COURTIER_SETS = 64;
    private static final int HOURS = 24;
    private static final int EVERY_HOUR = 16777215;
    private static final int BARE = 24;
    private static final int MOST_SCANDALS = 99;
    private static final int FIRST_TEARS = 9;
    private static final int MOST_TEARS = 20;
    private static final int MOST_SIGNS = 60;
    private static final int FIRST_SIGN = 33;
    private static final int LAST_SIGN = 126;
    private static final int MOST_SIGHTS = 8;
    private static final int MOST_DRAWS = 99;
    private static final int MOST_SEED = 9999;
    private static final int MOST_PERIOD = 999;
    private static final int LAST_MINUTE = 999999;
    private static final int MOST_CANDLES = 999;
    private static final int MOST_PAIRS = 9;
    private static final int MOST_DEEDS_BY_CHANCE = 12;

    // Why an act can not be; the numbers are the document's.
    private static final int CAN_BE = 0;
    private static final int NOBODY = 1;
    private static final int BOTH_ARE_ONE = 2;
    private static final int NOT_HIS = 3;
    private static final int HAS_ONE_ALREADY = 4;
    private static final int RIGHT_IS_BARE = 5;
    private static final int TWO_HOURS = 6;

    private final Court court;
    private final Court firstImage;
    private final Court secondImage;
    private boolean firstKept;
    private boolean secondKept;
    private final Pad pad;
    private final Day day;
    private final Matching matching;
    private final Chances chances;

    public GloveHours() {
        court = new Court();
        firstImage = new Court();
        secondImage = new Court();
        pad = new Pad();
        day = new Day();
        matching = new Matching();
        chances = new Chances();
    }

    // ---- 1 courtiers, pairs

    public int courtier(int courtier, int pairs) {
        if (!isWithin(courtier, 0, COURTIERS - 1)) {
            return UNKNOWN;
        }
        if (!isWithin(pairs, 0, EVERY_HOUR)) {
            return OUTSIDE;
        }
        court.arrive(courtier, pairs);
        return Integer.bitCount(court.present);
    }

    public int leave(int courtier) {
        if (!court.isThere(courtier)) {
            return UNKNOWN;
        }
        court.goAway(courtier);
        return Integer.bitCount(court.present);
    }

    public int set(int which, int v) {
        int before;
        if (which == 0 && isWithin(v, 0, HOURS - 1)) {
            before = court.clock;
            court.clock = v;
        } else if (which == 1 && isWithin(v, 1, MOST_TEARS)) {
            before = court.tears;
            court.tears = v;
        } else {
            before = OUTSIDE;
        }
        return before;
    }

    public int say(int sign) {
        if (!isWithin(sign, FIRST_SIGN, LAST_SIGN)) {
            return OUTSIDE;
        }
        return pad.append(sign) ? pad.length : FULL;
    }

    public int wipe() {
        int before = pad.length;
        pad.length = 0;
        return before;
    }

    public int fault() {
        return pad.firstFault();
    }

    // ---- 2 days

    public int judge(int what) {
        if (!isWithin(what, 0, 2)) {
            return OUTSIDE;
        }
        int refusal = day.playPad(court, pad);
        if (refusal == NO) {
            return NO;
        }
        if (what == 2) {
            return refusal == STATE ? STATE : day.deeds;
        }
        return what == 0 ? day.stoppedAct : day.stoppedWhy;
    }

    public int behind(int courtier, int what) {
        if (!court.isThere(courtier)) {
            return UNKNOWN;
        }
        if (!isWithin(what, 0, 3)) {
            return OUTSIDE;
        }
        int refusal = day.playPad(court, pad);
        if (refusal < 0) {
            return refusal;
        }
        return what == 3 ? day.court.pairsOf(courtier) : day.court.tellOf(courtier, what);
    }

    public int wear(int courtier, int hour) {
        if (!court.isThere(courtier)) {
            return UNKNOWN;
        }
        if (!isWithin(hour, 0, HOURS - 1)) {
            return OUTSIDE;
        }
        int refusal = day.playPad(court, pad);
        return refusal < 0 ? refusal : day.court.wearOf(courtier, hour);
    }

    public int deed(int k, int what) {
        if (!isWithin(what, 0, 2)) {
            return OUTSIDE;
        }
        int refusal = day.playPad(court, pad);
        return refusal < 0 ? refusal : day.tellOfDeed(k, what);
    }

    public int late(int what) {
        if (!isWithin(what, 0, 1)) {
            return OUTSIDE;
        }
        int refusal = day.playPad(court, pad);
        if (refusal < 0) {
            return refusal;
        }
        return what == 0 ? day.firstLate() : day.countLate();
    }

    public int done() {
        int refusal = day.playPad(court, pad);
        if (refusal < 0) {
            return refusal;
        }
        court.copyFrom(day.court);
        pad.length = 0;
        return day.acts;
    }

    public int proper() {
        int bits = 0;
        for (int c = 0; c < COURTIERS; c++) {
            if (court.isProper(c)) {
                bits |= 1 << c;
            }
        }
        return bits;
    }

    public int can(int hour, int set, int what) {
        if ((set & ~court.present) != 0) {
            return UNKNOWN;
        }
        if (!isWithin(hour, 0, HOURS - 1) || !isWithin(what, 0, 1)) {
            return OUTSIDE;
        }
        int owners = court.ownersOf(hour);
        int most = Math.min(Integer.bitCount(set), Integer.bitCount(owners));
        return what == 0 ? most : most - Integer.bitCount(set & owners);
    }

    // ---- 3 matches, orders, two countries

    public int match(int hours, int v, int hour) {
        if (!isWithin(hours, 0, EVERY_HOUR) || !isWithin(v, 1, HOURS)) {
            return OUTSIDE;
        }
        if (hour != -1 && !hasHour(hours, hour)) {
            return UNKNOWN;
        }
        matching.begin(court, hours, v);
        return hour == -1 ? matching.most() : matching.whoDoes(court, hours, hour);
    }

    public int all(int hours, int what) {
        if (!isWithin(hours, 0, EVERY_HOUR) || !isWithin(what, 0, 1)) {
            return OUTSIDE;
        }
        int best = NONE;
        int fewest = COURTIERS + 1;
        for (int set = 0; set < COURTIER_SETS; set++) {
            int size = Integer.bitCount(set);
            if (size < fewest && (hours & ~court.pairsOfSet(set)) == 0) {
                best = set;
                fewest = size;
            }
        }
        return best == NONE || what == 1 ? best : fewest;
    }

    public int mended(int what) {
        if (!isWithin(what, 0, 1)) {
            return OUTSIDE;
        }
        int refusal = day.playPad(court, pad);
        if (refusal < 0) {
            return refusal;
        }
        int kept = day.mostKept();
        return what == 0 ? day.deeds - kept : day.firstLeftOut(kept);
    }

    public int strikes(int a, int x, int b, int y) {
        return areCountries(a, x, b, y) ? firstStrike(a, x, b, y) : OUTSIDE;
    }

    public int often(int a, int x, int b, int y, int m) {
        if (!areCountries(a, x, b, y) || !isWithin(m, 0, LAST_MINUTE)) {
            return OUTSIDE;
        }
        int first = firstStrike(a, x, b, y);
        int divisor = (int) commonDivisor(a, b);
        if (first == NONE || first > m || divisor < 1) {
            return 0;
        }
        int period = a / divisor * b;
        return period < 1 ? 0 : (m - first) / period + 1;
    }

    // ---- 4 who wore it, tears, Vespers

    public int seen(int hour, boolean owned) {
        if (!isWithin(hour, 0, HOURS - 1)) {
            return OUTSIDE;
        }
        if (court.sights >= MOST_SIGHTS) {
            return FULL;
        }
        court.addSight(hour, owned);
        return court.sights;
    }

    public int forget() {
        return court.dropSights();
    }

    public int wore() {
        return court.suspects();
    }

    public int ask(int what) {
        if (!isWithin(what, 0, 1)) {
            return OUTSIDE;
        }
        int suspects = court.suspects();
        if (suspects == 0) {
            return NONE;
        }
        int bestHour = 0;
        int fewest = COURTIERS + 1;
        for (int hour = 0; hour < HOURS; hour++) {
            int owning = Integer.bitCount(suspects & court.ownersOf(hour));
            int left = Math.max(owning, Integer.bitCount(suspects) - owning);
            if (left < fewest) {
                bestHour = hour;
                fewest = left;
            }
        }
        return what == 0 ? bestHour : fewest;
    }

    public long tear(int n, int m, int t, int what, int part) {
        boolean asTold = isWithin(n, 0, MOST_PAIRS) && isWithin(m, 0, MOST_DEEDS_BY_CHANCE)
                && isWithin(t, 0, 10) && isWithin(what, 0, 1) && isWithin(part, 0, 1);
        if (!asTold) {
            return GONE + OUTSIDE;
        }
        chances.run(n, m, t);
        long upper = what == 0 ? chances.someLeft() : chances.deedsDone;
        long divisor = commonDivisor(upper, chances.whole);
        if (divisor < 1) {
            return 0;
        }
        return part == 0 ? upper / divisor : chances.whole / divisor;
    }

    public int vespers(int courtier, int c) {
        if (!court.isThere(courtier)) {
            return UNKNOWN;
        }
        if (!isWithin(c, 0, MOST_CANDLES)) {
            return OUTSIDE;
        }
        return candlesOf(courtier, c);
    }

    public int reign(int seed, int m, int what) {
        if (!isWithin(seed, 0, MOST_SEED) || !isWithin(m, 1, MOST_DRAWS) || !isWithin(what, 0, 2)) {
            return OUTSIDE;
        }
        day.playDraws(court, seed, m);
        if (what == 2) {
            return day.court.scandalsTogether();
        }
        return what == 0 ? day.deeds : day.countLate();
    }

    public int image(int k) {
        if (!isWithin(k, 0, 1)) {
            return OUTSIDE;
        }
        if (k == 0) {
            firstImage.copyFrom(court);
            firstKept = true;
        } else {
            secondImage.copyFrom(court);
            secondKept = true;
        }
        return 1;
    }

    public int restore(int k) {
        if (!isWithin(k, 0, 1)) {
            return OUTSIDE;
        }
        boolean kept = k == 0 ? firstKept : secondKept;
        if (!kept) {
            return STATE;
        }
        court.copyFrom(k == 0 ? firstImage : secondImage);
        return 1;
    }

    public int told(int what) {
        switch (what) {
            case 0:
                return pad.length;
            case 1:
                return court.present;
            case 2:
                return court.clock;
            case 3:
                return court.tears;
            case 4:
                return court.sights;
            default:
                return toldOfCourtier(what);
        }
    }

    // ---- what several calls need

    private static boolean isWithin(int number, int least, int most) {
        return number >= least && number <= most;
    }

    private static boolean hasHour(int hours, int hour) {
        return isWithin(hour, 0, HOURS - 1) && (hours & (1 << hour)) != 0;
    }

    private static boolean areCountries(int a, int x, int b, int y) {
        return isWithin(a, 1, MOST_PERIOD) && isWithin(b, 1, MOST_PERIOD)
                && isWithin(x, 0, a - 1) && isWithin(y, 0, b - 1);
    }

    // Behind b steps of a the rests by b come again, so that later minutes are of no use.
    private static int firstStrike(int a, int x, int b, int y) {
        if (b < 1) {
            return NONE;
        }
        int minute = x;
        for (int turn = 0; turn < b; turn++) {
            if (minute % b == y) {
                return minute;
            }
            minute += a;
        }
        return NONE;
    }

    // A hundred turns are more than any two longs need.
    private static long commonDivisor(long one, long other) {
        long a = one;
        long b = other;
        for (int turn = 0; turn < 100 && b != 0; turn++) {
            long rest = a % b;
            a = b;
            b = rest;
        }
        return a;
    }

    private int candlesOf(int courtier, int candles) {
        int allPairs = 0;
        for (int c = 0; c < COURTIERS; c++) {
            allPairs += court.countPairs(c);
        }
        if (allPairs < 1) {
            return 0;
        }
        int own = court.countPairs(courtier);
        int over = candles;
        int ahead = 0;
        for (int c = 0; c < COURTIERS; c++) {
            int count = court.countPairs(c);
            over -= candles * count / allPairs;
            if (court.isThere(c) && (count < own || (count == own && c < courtier))) {
                ahead++;
            }
        }
        int share = candles * own / allPairs;
        return ahead < over ? share + 1 : share;
    }

    private int toldOfCourtier(int what) {
        int ofHands = what / 10 - 1;
        if (court.isThere(ofHands) && isWithin(what % 10, 0, 2)) {
            return court.tellOf(ofHands, what % 10);
        }
        int ofPairs = what / 100 - 1;
        if (court.isThere(ofPairs) && isWithin(what % 100, 0, HOURS - 1)) {
            return court.wearOf(ofPairs, what % 100);
        }
        return OUTSIDE;
    }

    /** All but the pad: who is there, gloves, clock, tears and sights. */
    private static final class Court {
        int present;
        int clock;
        int tears;
        int sights;
        private int hoursSeen;
        private int hoursNotOwned;
        private final int[] pairs;
        private final int[] left;
        private final int[] right;
        private final int[] scandals;
        private final int[] wears;

        Court() {
            tears = FIRST_TEARS;
            pairs = new int[COURTIERS];
            left = new int[COURTIERS];
            right = new int[COURTIERS];
            scandals = new int[COURTIERS];
            wears = new int[COURTIERS * HOURS];
        }

        void copyFrom(Court other) {
            present = other.present;
            clock = other.clock;
            tears = other.tears;
            sights = other.sights;
            hoursSeen = other.hoursSeen;
            hoursNotOwned = other.hoursNotOwned;
            System.arraycopy(other.pairs, 0, pairs, 0, COURTIERS);
            System.arraycopy(other.left, 0, left, 0, COURTIERS);
            System.arraycopy(other.right, 0, right, 0, COURTIERS);
            System.arraycopy(other.scandals, 0, scandals, 0, COURTIERS);
            System.arraycopy(other.wears, 0, wears, 0, COURTIERS * HOURS);
        }

        boolean isThere(int courtier) {
            return courtier >= 0 && courtier < COURTIERS && (present & (1 << courtier)) != 0;
        }

        // Who has gone owns nothing, so that his pairs alone tell it.
        boolean owns(int courtier, int hour) {
            return courtier >= 0 && courtier < COURTIERS && hour >= 0 && hour < HOURS
                    && (pairs[courtier] & (1 << hour)) != 0;
        }

        int pairsOf(int courtier) {
            return isThere(courtier) ? pairs[courtier] : 0;
        }

        int countPairs(int courtier) {
            return Integer.bitCount(pairsOf(courtier));
        }

        int pairsOfSet(int set) {
            int hours = 0;
            for (int c = 0; c < COURTIERS; c++) {
                if ((set & (1 << c)) != 0) {
                    hours |= pairsOf(c);
                }
            }
            return hours;
        }

        int ownersOf(int hour) {
            int bits = 0;
            for (int c = 0; c < COURTIERS; c++) {
                if (owns(c, hour)) {
                    bits |= 1 << c;
                }
            }
            return bits;
        }

        int wearOf(int courtier, int hour) {
            return owns(courtier, hour) ? wears[courtier * HOURS + hour] : NONE;
        }

        int rightOf(int courtier) {
            return isThere(courtier) ? right[courtier] : BARE;
        }

        /** His left (what = 0), right (1) or scandals (2). */
        int tellOf(int courtier, int what) {
            if (!isThere(courtier)) {
                return NONE;
            }
            if (what == 2) {
                return scandals[courtier];
            }
            return what == 0 ? left[courtier] : right[courtier];
        }

        void arrive(int courtier, int hours) {
            if (!isWithin(courtier, 0, COURTIERS - 1)) {
                return;
            }
            present |= 1 << courtier;
            pairs[courtier] = hours;
            left[courtier] = BARE;
            right[courtier] = BARE;
            scandals[courtier] = 0;
            for (int hour = 0; hour < HOURS; hour++) {
                wears[courtier * HOURS + hour] = 0;
            }
        }

        void goAway(int courtier) {
            if (isThere(courtier)) {
                present &= ~(1 << courtier);
                pairs[courtier] = 0;
            }
        }

        boolean isProper(int courtier) {
            if (!isThere(courtier) || right[courtier] != clock) {
                return false;
            }
            int hourAhead = clock == 0 ? HOURS - 1 : clock - 1;
            return left[courtier] == clock || left[courtier] == hourAhead;
        }

        void passHour() {
            for (int c = 0; c < COURTIERS; c++) {
                if (isThere(c) && !isProper(c) && scandals[c] < MOST_SCANDALS) {
                    scandals[c]++;
                }
            }
            clock = clock == HOURS - 1 ? 0 : clock + 1;
        }

        int putOnLeft(int courtier, int hour) {
            if (owns(courtier, hour)) {
                left[courtier] = hour;
            }
            return whyNotHis(courtier, hour);
        }

        int putOnRight(int courtier, int hour) {
            if (owns(courtier, hour)) {
                right[courtier] = hour;
            }
            return whyNotHis(courtier, hour);
        }

        private int whyNotHis(int courtier, int hour) {
            if (!isThere(courtier)) {
                return NOBODY;
            }
            return owns(courtier, hour) ? CAN_BE : NOT_HIS;
        }

        int takeOff(int courtier) {
            if (!isThere(courtier)) {
                return NOBODY;
            }
            left[courtier] = BARE;
            right[courtier] = BARE;
            return CAN_BE;
        }

        int give(int giver, int taker, int hour) {
            int why = whyNotGiven(giver, taker, hour);
            if (why == CAN_BE && owns(giver, hour) && isThere(taker)) {
                wears[taker * HOURS + hour] = wears[giver * HOURS + hour];
                pairs[taker] |= 1 << hour;
                losePair(giver, hour);
            }
            return why;
        }

        private int whyNotGiven(int giver, int taker, int hour) {
            if (!isThere(giver) || !isThere(taker)) {
                return NOBODY;
            }
            if (giver == taker) {
                return BOTH_ARE_ONE;
            }
            if (!owns(giver, hour)) {
                return NOT_HIS;
            }
            return owns(taker, hour) ? HAS_ONE_ALREADY : CAN_BE;
        }

        private void losePair(int courtier, int hour) {
            if (courtier < 0 || courtier >= COURTIERS) {
                return;
            }
            pairs[courtier] &= ~(1 << hour);
            if (left[courtier] == hour) {
                left[courtier] = BARE;
            }
            if (right[courtier] == hour) {
                right[courtier] = BARE;
            }
        }

        int whyNoDeed(int courtier) {
            if (!isThere(courtier)) {
                return NOBODY;
            }
            return right[courtier] == BARE ? RIGHT_IS_BARE : CAN_BE;
        }

        int whyNoPromise(int one, int other) {
            if (!isThere(one) || !isThere(other)) {
                return NOBODY;
            }
            if (one == other) {
                return BOTH_ARE_ONE;
            }
            if (right[one] == BARE || right[other] == BARE) {
                return RIGHT_IS_BARE;
            }
            return right[one] == right[other] ? CAN_BE : TWO_HOURS;
        }

        /** One more wear of a pair that he owns; it may be torn by that. */
        void usePair(int courtier, int hour) {
            if (!owns(courtier, hour)) {
                return;
            }
            int wear = wears[courtier * HOURS + hour] + 1;
            wears[courtier * HOURS + hour] = wear;
            if (wear >= tears) {
                losePair(courtier, hour);
            }
        }

        int scandalsTogether() {
            int sum = 0;
            for (int c = 0; c < COURTIERS; c++) {
                if (isThere(c)) {
                    sum += scandals[c];
                }
            }
            return sum;
        }

        // Sights of one hour and one kind tell nothing new, so that two sets hold them all.
        void addSight(int hour, boolean owned) {
            sights++;
            if (owned) {
                hoursSeen |= 1 << hour;
            } else {
                hoursNotOwned |= 1 << hour;
            }
        }

        int dropSights() {
            int before = sights;
            sights = 0;
            hoursSeen = 0;
            hoursNotOwned = 0;
            return before;
        }

        /** By whom all sights are so, as bits. */
        int suspects() {
            int bits = 0;
            for (int c = 0; c < COURTIERS; c++) {
                int hours = pairsOf(c);
                if (isThere(c) && (hoursSeen & ~hours) == 0 && (hoursNotOwned & hours) == 0) {
                    bits |= 1 << c;
                }
            }
            return bits;
        }
    }

    /** The signs that have been said, and how they are read. */
    private static final class Pad {
        // What the next sign must be: an act's first, what he does, tens, units, units behind 2, who takes.
        private static final int FIRST = 0;
        private static final int DOES = 1;
        private static final int TENS = 2;
        private static final int UNITS = 3;
        private static final int UNITS_BEHIND_TWO = 4;
        private static final int TAKER = 5;
        private static final int STUCK = -1;

        int length;
        private final int[] signs;

        Pad() {
            signs = new int[MOST_SIGNS];
        }

        boolean append(int sign) {
            if (!isWithin(length, 0, MOST_SIGNS - 1)) {
                return false;
            }
            signs[length] = sign;
            length++;
            return true;
        }

        int signAt(int place) {
            return isWithin(place, 0, MOST_SIGNS - 1) && place < length ? signs[place] : 0;
        }

        int courtierAt(int place) {
            return signAt(place) - 'A';
        }

        int hourAt(int place) {
            return 10 * (signAt(place) - '0') + signAt(place + 1) - '0';
        }

        /** How many signs the act that begins there has. */
        int widthAt(int place) {
            if (signAt(place) == '.') {
                return 1;
            }
            switch (signAt(place + 1)) {
                case 'l':
                case 'r':
                    return 4;
                case '>':
                    return 5;
                default:
                    return 2;
            }
        }

        int firstFault() {
            int next = FIRST;
            for (int place = 0; place < length; place++) {
                next = nextBehind(next, signAt(place));
                if (next == STUCK) {
                    return place;
                }
            }
            return next == FIRST ? NONE : length;
        }

        private static int nextBehind(int expected, int sign) {
            switch (expected) {
                case FIRST:
                    return sign == '.' ? FIRST : isLetter(sign) ? DOES : STUCK;
                case DOES:
                    return nextBehindLetter(sign);
                case TENS:
                    return sign == '2' ? UNITS_BEHIND_TWO : isWithin(sign, '0', '1') ? UNITS : STUCK;
                case UNITS:
                    return isWithin(sign, '0', '9') ? FIRST : STUCK;
                case UNITS_BEHIND_TWO:
                    return isWithin(sign, '0', '3') ? FIRST : STUCK;
                default:
                    return isLetter(sign) ? TENS : STUCK;
            }
        }

        private static int nextBehindLetter(int sign) {
            switch (sign) {
                case 'l':
                case 'r':
                    return TENS;
                case '>':
                    return TAKER;
                case '0':
                case '!':
                    return FIRST;
                default:
                    return isLetter(sign) ? FIRST : STUCK;
            }
        }

        private static boolean isLetter(int sign) {
            return sign >= 'A' && sign < 'A' + COURTIERS;
        }
    }

    /** Acts played on a copy of the court, and the deeds that were done in them. */
    private static final class Day {
        // A reign may do more deeds than a pad: 99 against 60.
        private static final int MOST_DEEDS = MOST_DRAWS;

        final Court court;
        int acts;
        int deeds;
        int stoppedAct;
        int stoppedWhy;
        private final int[] deedHours;
        private final int[] deedClocks;
        private final int[] deedCourtiers;
        private final int[] longestFrom;

        Day() {
            court = new Court();
            deedHours = new int[MOST_DEEDS];
            deedClocks = new int[MOST_DEEDS];
            deedCourtiers = new int[MOST_DEEDS];
            longestFrom = new int[MOST_DEEDS];
        }

        private void begin(Court from) {
            court.copyFrom(from);
            acts = 0;
            deeds = 0;
            stoppedAct = NONE;
            stoppedWhy = NONE;
        }

        /** Plays the pad until an act can not be; answers STATE then, NO to a fault, else 0. */
        int playPad(Court from, Pad pad) {
            if (pad.firstFault() != NONE) {
                return NO;
            }
            begin(from);
            int place = 0;
            for (int act = 0; act < MOST_SIGNS && place < pad.length; act++) {
                int why = playAct(pad, place);
                if (why != CAN_BE) {
                    stoppedAct = act;
                    stoppedWhy = why;
                    return STATE;
                }
                acts++;
                place += pad.widthAt(place);
            }
            return 0;
        }

        private int playAct(Pad pad, int place) {
            if (pad.signAt(place) == '.') {
                court.passHour();
                return CAN_BE;
            }
            int one = pad.courtierAt(place);
            switch (pad.signAt(place + 1)) {
                case 'l':
                    return court.putOnLeft(one, pad.hourAt(place + 2));
                case 'r':
                    return court.putOnRight(one, pad.hourAt(place + 2));
                case '0':
                    return court.takeOff(one);
                case '!':
                    return playDeeds(one, one, court.whyNoDeed(one));
                case '>':
                    return court.give(one, pad.courtierAt(place + 2), pad.hourAt(place + 3));
                default:
                    int other = pad.courtierAt(place + 1);
                    return playDeeds(one, other, court.whyNoPromise(one, other));
            }
        }

        void playDraws(Court from, int seed, int draws) {
            begin(from);
            int x = seed;
            for (int draw = 0; draw < draws; draw++) {
                x = (75 * x + 74) % 65537;
                playDraw(x);
            }
        }

        private void playDraw(int x) {
            int one = x % 6;
            int hour = x / 24 % 24;
            switch (x / 6 % 4) {
                case 0:
                    court.passHour();
                    break;
                case 1:
                    court.putOnRight(one, hour);
                    break;
                case 2:
                    court.putOnLeft(one, hour);
                    break;
                default:
                    playDeeds(one, one, court.whyNoDeed(one));
                    break;
            }
        }

        /** A deed of one, or of both if they are two, unless there is a reason against it. */
        private int playDeeds(int one, int other, int why) {
            if (why == CAN_BE) {
                addDeed(one);
                if (other != one) {
                    addDeed(other);
                }
            }
            return why;
        }

        private void addDeed(int courtier) {
            if (!isWithin(deeds, 0, MOST_DEEDS - 1)) {
                return;
            }
            int hour = court.rightOf(courtier);
            deedHours[deeds] = hour;
            deedClocks[deeds] = court.clock;
            deedCourtiers[deeds] = courtier;
            deeds++;
            court.usePair(courtier, hour);
        }

        private boolean isDeed(int k) {
            return isWithin(k, 0, MOST_DEEDS - 1) && k < deeds;
        }

        /** Its hour (what = 0), the clock then (1), whose it was (2). */
        int tellOfDeed(int k, int what) {
            if (!isDeed(k)) {
                return UNKNOWN;
            }
            if (what == 2) {
                return deedCourtiers[k];
            }
            return what == 0 ? deedHours[k] : deedClocks[k];
        }

        private boolean isLate(int k) {
            return isDeed(k) && deedHours[k] != deedClocks[k];
        }

        int firstLate() {
            for (int k = 0; k < deeds; k++) {
                if (isLate(k)) {
                    return k;
                }
            }
            return NONE;
        }

        int countLate() {
            int count = 0;
            for (int k = 0; k < deeds; k++) {
                if (isLate(k)) {
                    count++;
                }
            }
            return count;
        }

        /** How many deeds can stay so that their hours never fall; firstLeftOut needs its row. */
        int mostKept() {
            int most = 0;
            for (int k = MOST_DEEDS - 1; k >= 0; k--) {
                longestFrom[k] = isDeed(k) ? 1 + longestBehind(k) : 0;
                most = Math.max(most, longestFrom[k]);
            }
            return most;
        }

        private int longestBehind(int k) {
            int longest = 0;
            for (int next = k + 1; next < MOST_DEEDS && next < deeds; next++) {
                if (isDeed(k) && deedHours[next] >= deedHours[k]) {
                    longest = Math.max(longest, longestFrom[next]);
                }
            }
            return longest;
        }

        // Staying as early as the count allows gives the least row of numbers.
        int firstLeftOut(int kept) {
            int hour = 0;
            int missing = kept;
            for (int k = 0; k < MOST_DEEDS && k < deeds; k++) {
                if (deedHours[k] < hour || longestFrom[k] < missing) {
                    return k;
                }
                hour = deedHours[k];
                missing--;
            }
            return NONE;
        }
    }

    /** Hours to hands: how many deeds of told hours can be done, and by whom. */
    private static final class Matching {
        private int hoursToCome;
        private final int[] room;
        // For each set of courtiers: the deeds they may yet do, less the hours to come that only they own.
        private final int[] slack;

        Matching() {
            room = new int[COURTIERS];
            slack = new int[COURTIER_SETS];
        }

        void begin(Court court, int hours, int deedsOfOne) {
            hoursToCome = 0;
            for (int c = 0; c < COURTIERS; c++) {
                room[c] = deedsOfOne;
            }
            for (int set = 0; set < COURTIER_SETS; set++) {
                slack[set] = deedsOfOne * Integer.bitCount(set);
            }
            for (int hour = 0; hour < HOURS; hour++) {
                if (hasHour(hours, hour)) {
                    changeHours(court.ownersOf(hour), 1);
                }
            }
        }

        // The least cut is the most that flows: what a set has room for and the hours that others own, too.
        int most() {
            int least = slack[0];
            for (int set = 1; set < COURTIER_SETS; set++) {
                least = Math.min(least, slack[set]);
            }
            return hoursToCome + least;
        }

        /** Deals the hours out from the least on; who does the told one, NONE if nobody. */
        int whoDoes(Court court, int hours, int told) {
            int missing = most();
            int who = NONE;
            for (int hour = 0; hour < HOURS && hour <= told; hour++) {
                if (hasHour(hours, hour)) {
                    int owners = court.ownersOf(hour);
                    changeHours(owners, -1);
                    who = leastWho(owners, missing);
                    missing = who == NONE ? missing : missing - 1;
                }
            }
            return who;
        }

        private int leastWho(int owners, int missing) {
            for (int c = 0; c < COURTIERS; c++) {
                if ((owners & (1 << c)) != 0 && room[c] > 0) {
                    changeRoom(c, -1);
                    if (most() + 1 == missing) {
                        return c;
                    }
                    changeRoom(c, 1);
                }
            }
            return NONE;
        }

        private void changeHours(int owners, int by) {
            hoursToCome += by;
            for (int set = 0; set < COURTIER_SETS; set++) {
                if ((owners & ~set) == 0) {
                    slack[set] -= by;
                }
            }
        }

        private void changeRoom(int courtier, int by) {
            if (!isWithin(courtier, 0, COURTIERS - 1)) {
                return;
            }
            room[courtier] += by;
            for (int set = 0; set < COURTIER_SETS; set++) {
                if ((set & (1 << courtier)) != 0) {
                    slack[set] += by;
                }
            }
        }
    }

    /** Pairs that tear by chance: how likely so many are left, all over one whole. */
    private static final class Chances {
        long whole;
        long deedsDone;
        // One place more than there can be pairs: that one stays 0.
        private final long[] left;

        Chances() {
            left = new long[MOST_PAIRS + 2];
        }

        void run(int pairs, int deeds, int tenths) {
            for (int k = 0; k < MOST_PAIRS + 2; k++) {
                left[k] = k == pairs ? 1 : 0;
            }
            whole = 1;
            deedsDone = 0;
            for (int deed = 0; deed < deeds; deed++) {
                deedsDone = 10 * (deedsDone + someLeft());
                whole *= 10;
                tryDeed(tenths);
            }
        }

        // Where no pair is left none comes back, so that left[0] need not be told.
        private void tryDeed(int tenths) {
            for (int k = 1; k < MOST_PAIRS + 1; k++) {
                left[k] = (10 - tenths) * left[k] + tenths * left[k + 1];
            }
        }

        long someLeft() {
            long sum = 0;
            for (int k = 1; k < MOST_PAIRS + 1; k++) {
                sum += left[k];
            }
            return sum;
        }
    }
}
