/** What many tests need: hours as bits, courts, days that are said and done. */
final class Play {
    static final int UNKNOWN = -1, OUTSIDE = -2, STATE = -3, FULL = -4, NO = -5, NONE = -6;
    static final int EVERY_HOUR = 0xFFFFFF;
    static final int BARE = 24;
    static final int LOW = Integer.MIN_VALUE, HIGH = Integer.MAX_VALUE;

    private Play() {
    }

    static int hours(int... hours) {
        int bits = 0;
        for (int hour : hours) {
            bits |= 1 << hour;
        }
        return bits;
    }

    /** A court of A, B and so on with these pairs. */
    static GloveHours court(int... pairs) {
        GloveHours x = new GloveHours();
        for (int c = 0; c < pairs.length; c++) {
            x.courtier(c, pairs[c]);
        }
        return x;
    }

    /** Signs more. */
    static GloveHours say(GloveHours x, String signs) {
        for (char sign : signs.toCharArray()) {
            x.say(sign);
        }
        return x;
    }

    /** A day said anew. */
    static GloveHours day(GloveHours x, String signs) {
        x.wipe();
        return say(x, signs);
    }

    /** A day said anew and done; its acts. */
    static int done(GloveHours x, String signs) {
        return day(x, signs).done();
    }

    /** The act that puts the glove of that hour on. */
    static String puts(int courtier, char hand, int hour) {
        return "" + letter(courtier) + hand + hour / 10 + hour % 10;
    }

    static char letter(int courtier) {
        return (char) ('A' + courtier);
    }
}
