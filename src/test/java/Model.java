import java.math.BigInteger;
import java.util.ArrayList;
import java.util.List;
import java.util.TreeMap;
import java.util.regex.Matcher;
import java.util.regex.Pattern;

/** The document once more, read with the library's means and by trying all ways: slow, for comparison only. */
final class Model {
    private static final Pattern ACT =
            Pattern.compile("\\.|([A-F])(?:([lr])([01][0-9]|2[0-3])|(0)|(!)|([A-F])|>([A-F])([01][0-9]|2[0-3]))");

    private static final class Person {
        TreeMap<Integer, Integer> pairs = new TreeMap<>();
        int left = 24;
        int right = 24;
        int scandals;

        Person copy() {
            Person other = new Person();
            other.pairs = new TreeMap<>(pairs);
            other.left = left;
            other.right = right;
            other.scandals = scandals;
            return other;
        }

        void lose(int hour) {
            pairs.remove(hour);
            left = left == hour ? 24 : left;
            right = right == hour ? 24 : right;
        }
    }

    private static final class World {
        TreeMap<Integer, Person> people = new TreeMap<>();
        int clock;
        int tears = 9;
        List<int[]> sights = new ArrayList<>();

        World copy() {
            World other = new World();
            people.forEach((c, p) -> other.people.put(c, p.copy()));
            other.clock = clock;
            other.tears = tears;
            other.sights = new ArrayList<>(sights);
            return other;
        }

        boolean isProper(int c) {
            Person p = people.get(c);
            return p != null && p.right == clock && (p.left == clock || p.left == (clock + 23) % 24);
        }

        void pass() {
            people.forEach((c, p) -> p.scandals = isProper(c) ? p.scandals : Math.min(99, p.scandals + 1));
            clock = (clock + 1) % 24;
        }

        void use(int c, List<int[]> deeds) {
            Person p = people.get(c);
            int hour = p.right;
            deeds.add(new int[] {hour, clock, c});
            p.pairs.merge(hour, 1, Integer::sum);
            if (p.pairs.get(hour) >= tears) {
                p.lose(hour);
            }
        }
    }

    private World world = new World();
    private final World[] images = new World[2];
    private String pad = "";

    // What the last look at the pad found.
    private World later;
    private List<int[]> deeds;
    private int acts;
    private int why;

    private static boolean in(long v, long low, long high) {
        return low <= v && v <= high;
    }

    private static List<Integer> bits(int set) {
        List<Integer> list = new ArrayList<>();
        for (int i = 0; i < 32; i++) {
            if ((set >>> i & 1) == 1) {
                list.add(i);
            }
        }
        return list;
    }

    int courtier(int c, int pairs) {
        if (!in(c, 0, 5)) {
            return -1;
        }
        if (!in(pairs, 0, (1 << 24) - 1)) {
            return -2;
        }
        Person p = new Person();
        bits(pairs).forEach(h -> p.pairs.put(h, 0));
        world.people.put(c, p);
        return world.people.size();
    }

    int leave(int c) {
        return world.people.remove(c) == null ? -1 : world.people.size();
    }

    int set(int which, int v) {
        int old = which == 0 ? world.clock : world.tears;
        if (which == 0 && in(v, 0, 23)) {
            world.clock = v;
            return old;
        }
        if (which == 1 && in(v, 1, 20)) {
            world.tears = v;
            return old;
        }
        return -2;
    }

    int say(int sign) {
        if (!in(sign, 33, 126)) {
            return -2;
        }
        if (pad.length() == 60) {
            return -4;
        }
        pad += (char) sign;
        return pad.length();
    }

    int wipe() {
        int n = pad.length();
        pad = "";
        return n;
    }

    int fault() {
        Matcher m = ACT.matcher(pad);
        int at = 0;
        while (at < pad.length()) {
            m.region(at, pad.length());
            if (!m.lookingAt()) {
                return m.hitEnd() && couldGoOn(pad.substring(at)) ? pad.length() : firstBad(pad, at);
            }
            at = m.end();
        }
        return -6;
    }

    private static final String[] FILLS = {"", "0", "00", "A00", "r00"};

    private static boolean couldGoOn(String begun) {
        for (String fill : FILLS) {
            if (ACT.matcher(begun + fill).matches()) {
                return true;
            }
        }
        return false;
    }

    private static int firstBad(String pad, int at) {
        for (int end = at + 1; end <= pad.length(); end++) {
            if (!couldGoOn(pad.substring(at, end))) {
                return end - 1;
            }
        }
        throw new IllegalStateException(pad);
    }

    private int look() {
        if (fault() != -6) {
            return -5;
        }
        later = world.copy();
        deeds = new ArrayList<>();
        acts = 0;
        why = 0;
        Matcher m = ACT.matcher(pad);
        while (m.find()) {
            why = act(m);
            if (why != 0) {
                return -3;
            }
            acts++;
        }
        return 0;
    }

    private int act(Matcher m) {
        if (m.group().equals(".")) {
            later.pass();
            return 0;
        }
        int one = m.group().charAt(0) - 'A';
        String partner = m.group(6) != null ? m.group(6) : m.group(7);
        int two = partner == null ? -1 : partner.charAt(0) - 'A';
        String told = m.group(3) != null ? m.group(3) : m.group(8);
        int hour = told == null ? -1 : Integer.parseInt(told);
        Person p = later.people.get(one);
        Person q = later.people.get(two);
        if (p == null || (two >= 0 && q == null)) {
            return 1;
        }
        if (one == two) {
            return 2;
        }
        if (hour >= 0 && !p.pairs.containsKey(hour)) {
            return 3;
        }
        if (m.group(7) != null) {
            return give(p, q, hour);
        }
        if (m.group(2) != null) {
            p.left = m.group(2).equals("l") ? hour : p.left;
            p.right = m.group(2).equals("r") ? hour : p.right;
            return 0;
        }
        if (m.group(4) != null) {
            p.left = 24;
            p.right = 24;
            return 0;
        }
        if (p.right == 24 || (q != null && q.right == 24)) {
            return 5;
        }
        if (q != null && p.right != q.right) {
            return 6;
        }
        later.use(one, deeds);
        if (q != null) {
            later.use(two, deeds);
        }
        return 0;
    }

    private static int give(Person p, Person q, int hour) {
        if (q.pairs.containsKey(hour)) {
            return 4;
        }
        q.pairs.put(hour, p.pairs.get(hour));
        p.lose(hour);
        return 0;
    }

    int judge(int what) {
        if (!in(what, 0, 2)) {
            return -2;
        }
        int no = look();
        if (no == -5) {
            return -5;
        }
        if (what == 2) {
            return no == 0 ? deeds.size() : no;
        }
        return no == 0 ? -6 : what == 0 ? acts : why;
    }

    int behind(int c, int what) {
        if (!world.people.containsKey(c)) {
            return -1;
        }
        if (!in(what, 0, 3)) {
            return -2;
        }
        int no = look();
        if (no != 0) {
            return no;
        }
        Person p = later.people.get(c);
        return what == 0 ? p.left : what == 1 ? p.right : what == 2 ? p.scandals : pairBits(p);
    }

    private static int pairBits(Person p) {
        return p.pairs.keySet().stream().mapToInt(h -> 1 << h).sum();
    }

    int wear(int c, int hour) {
        if (!world.people.containsKey(c)) {
            return -1;
        }
        if (!in(hour, 0, 23)) {
            return -2;
        }
        int no = look();
        return no != 0 ? no : later.people.get(c).pairs.getOrDefault(hour, -6);
    }

    int deed(int k, int what) {
        if (!in(what, 0, 2)) {
            return -2;
        }
        int no = look();
        if (no != 0) {
            return no;
        }
        return in(k, 0, deeds.size() - 1) ? deeds.get(k)[what] : -1;
    }

    int late(int what) {
        if (!in(what, 0, 1)) {
            return -2;
        }
        int no = look();
        return no != 0 ? no : lates(what);
    }

    private int lates(int what) {
        List<Integer> lates = new ArrayList<>();
        for (int k = 0; k < deeds.size(); k++) {
            if (deeds.get(k)[0] != deeds.get(k)[1]) {
                lates.add(k);
            }
        }
        return what == 1 ? lates.size() : lates.isEmpty() ? -6 : lates.get(0);
    }

    int done() {
        int no = look();
        if (no != 0) {
            return no;
        }
        world = later;
        pad = "";
        return acts;
    }

    int proper() {
        return world.people.keySet().stream().filter(c -> world.isProper(c)).mapToInt(c -> 1 << c).sum();
    }

    int can(int hour, int set, int what) {
        for (int c : bits(set)) {
            if (!world.people.containsKey(c)) {
                return -1;
            }
        }
        if (!in(hour, 0, 23) || !in(what, 0, 1)) {
            return -2;
        }
        List<Integer> owners = owners(hour);
        int best = -1;
        int gifts = 0;
        // Who owns the pairs in the end, in every way; each who has one more has been given one.
        for (int ends = 0; ends < 64; ends++) {
            if (Integer.bitCount(ends) != owners.size() || !world.people.keySet().containsAll(bits(ends))) {
                continue;
            }
            int proper = Integer.bitCount(ends & set);
            int given = (int) bits(ends).stream().filter(c -> !owners.contains(c)).count();
            if (proper > best || (proper == best && given < gifts)) {
                best = proper;
                gifts = given;
            }
        }
        return what == 0 ? best : gifts;
    }

    private List<Integer> owners(int hour) {
        List<Integer> list = new ArrayList<>();
        world.people.forEach((c, p) -> {
            if (p.pairs.containsKey(hour)) {
                list.add(c);
            }
        });
        return list;
    }

    int match(int hours, int v, int hour) {
        if (!in(hours, 0, (1 << 24) - 1) || !in(v, 1, 24)) {
            return -2;
        }
        List<Integer> list = bits(hours);
        if (hour != -1 && !list.contains(hour)) {
            return -1;
        }
        Integer[] who = new Integer[list.size()];
        int most = flow(list, who, v);
        if (hour == -1) {
            return most;
        }
        for (int i = 0; i < who.length; i++) {
            List<Integer> ways = owners(list.get(i));
            ways.add(-6);
            for (int c : ways) {
                who[i] = c;
                if (flow(list, who, v) == most) {
                    break;
                }
            }
        }
        return who[list.indexOf(hour)];
    }

    /** The most deeds, some hours being dealt already; -1 if somebody would do too many. */
    private int flow(List<Integer> list, Integer[] dealt, int v) {
        int[] who = new int[list.size()];
        int count = 0;
        for (int i = 0; i < who.length; i++) {
            who[i] = dealt[i] == null ? -6 : dealt[i];
            count += who[i] >= 0 ? 1 : 0;
        }
        for (int c = 0; c < 6; c++) {
            if (load(who, c) > v) {
                return -1;
            }
        }
        for (int i = 0; i < who.length; i++) {
            if (dealt[i] == null && enlarge(list, dealt, who, i, v, new boolean[6])) {
                count++;
            }
        }
        return count;
    }

    private static int load(int[] who, int c) {
        int sum = 0;
        for (int w : who) {
            sum += w == c ? 1 : 0;
        }
        return sum;
    }

    private boolean enlarge(List<Integer> list, Integer[] dealt, int[] who, int i, int v, boolean[] tried) {
        for (int c : owners(list.get(i))) {
            if (tried[c]) {
                continue;
            }
            tried[c] = true;
            if (load(who, c) < v) {
                who[i] = c;
                return true;
            }
            for (int j = 0; j < who.length; j++) {
                if (who[j] == c && dealt[j] == null && enlarge(list, dealt, who, j, v, tried)) {
                    who[i] = c;
                    return true;
                }
            }
        }
        return false;
    }

    int all(int hours, int what) {
        if (!in(hours, 0, (1 << 24) - 1) || !in(what, 0, 1)) {
            return -2;
        }
        for (int size = 0; size <= 6; size++) {
            for (int set = 0; set < 64; set++) {
                List<Integer> who = bits(set);
                if (who.size() == size && world.people.keySet().containsAll(who)
                        && bits(hours).stream().allMatch(h -> owners(h).stream().anyMatch(who::contains))) {
                    return what == 0 ? size : set;
                }
            }
        }
        return -6;
    }

    int mended(int what) {
        if (!in(what, 0, 1)) {
            return -2;
        }
        int no = look();
        if (no != 0) {
            return no;
        }
        List<Integer> best = deeds.size() <= 14 ? mendedByAllWays() : mendedByRows();
        if (what == 0) {
            return deeds.size() - best.size();
        }
        for (int k = 0; k < deeds.size(); k++) {
            if (!best.contains(k)) {
                return k;
            }
        }
        return -6;
    }

    private List<Integer> mendedByAllWays() {
        List<Integer> best = new ArrayList<>();
        for (int way = 0; way < 1 << deeds.size(); way++) {
            List<Integer> stay = bits(way);
            boolean holds = true;
            for (int i = 1; i < stay.size(); i++) {
                holds &= deeds.get(stay.get(i - 1))[0] <= deeds.get(stay.get(i))[0];
            }
            if (holds && (stay.size() > best.size() || (stay.size() == best.size() && isLess(stay, best)))) {
                best = stay;
            }
        }
        return best;
    }

    private List<Integer> mendedByRows() {
        List<List<Integer>> endingAt = new ArrayList<>();
        List<Integer> best = new ArrayList<>();
        for (int k = 0; k < deeds.size(); k++) {
            List<Integer> row = new ArrayList<>();
            for (int j = 0; j < k; j++) {
                List<Integer> other = endingAt.get(j);
                boolean longer = other.size() > row.size() || (other.size() == row.size() && isLess(other, row));
                if (deeds.get(j)[0] <= deeds.get(k)[0] && longer) {
                    row = other;
                }
            }
            row = new ArrayList<>(row);
            row.add(k);
            endingAt.add(row);
            if (row.size() > best.size() || (row.size() == best.size() && isLess(row, best))) {
                best = row;
            }
        }
        return best;
    }

    private static boolean isLess(List<Integer> a, List<Integer> b) {
        for (int i = 0; i < a.size(); i++) {
            if (!a.get(i).equals(b.get(i))) {
                return a.get(i) < b.get(i);
            }
        }
        return false;
    }

    int strikes(int a, int x, int b, int y) {
        if (!in(a, 1, 999) || !in(b, 1, 999) || !in(x, 0, a - 1) || !in(y, 0, b - 1)) {
            return -2;
        }
        for (int minute = 0; minute <= 999999; minute++) {
            if (minute % a == x && minute % b == y) {
                return minute;
            }
        }
        return -6;
    }

    int often(int a, int x, int b, int y, int m) {
        if (strikes(a, x, b, y) == -2 || !in(m, 0, 999999)) {
            return -2;
        }
        int count = 0;
        for (int minute = 0; minute <= m; minute++) {
            count += minute % a == x && minute % b == y ? 1 : 0;
        }
        return count;
    }

    int seen(int hour, boolean owned) {
        if (!in(hour, 0, 23)) {
            return -2;
        }
        if (world.sights.size() == 8) {
            return -4;
        }
        world.sights.add(new int[] {hour, owned ? 1 : 0});
        return world.sights.size();
    }

    int forget() {
        int n = world.sights.size();
        world.sights.clear();
        return n;
    }

    int wore() {
        return world.people.keySet().stream().filter(this::fits).mapToInt(c -> 1 << c).sum();
    }

    private boolean fits(int c) {
        return world.sights.stream().allMatch(s -> owners(s[0]).contains(c) == (s[1] == 1));
    }

    int ask(int what) {
        if (!in(what, 0, 1)) {
            return -2;
        }
        List<Integer> fit = bits(wore());
        for (int left = 1; left <= fit.size(); left++) {
            for (int hour = 0; hour < 24; hour++) {
                List<Integer> own = owners(hour);
                long yes = fit.stream().filter(own::contains).count();
                if (Math.max(yes, fit.size() - yes) == left) {
                    return what == 0 ? hour : left;
                }
            }
        }
        return -6;
    }

    long tear(int n, int m, int t, int what, int part) {
        if (!in(n, 0, 9) || !in(m, 0, 12) || !in(t, 0, 10) || !in(what, 0, 1) || !in(part, 0, 1)) {
            return -1000000000000000002L;
        }
        BigInteger upper = chance(n, m, t, what);
        BigInteger lower = BigInteger.TEN.pow(m);
        BigInteger divisor = upper.gcd(lower);
        return (part == 0 ? upper : lower).divide(divisor).longValueExact();
    }

    /** Over 10 to the m: that some pair is left (what = 0), or the mean of deeds to come (1). */
    private static BigInteger chance(int n, int m, int t, int what) {
        if (n == 0) {
            return BigInteger.ZERO;
        }
        if (m == 0) {
            return what == 0 ? BigInteger.ONE : BigInteger.ZERO;
        }
        BigInteger torn = chance(n - 1, m - 1, t, what).multiply(BigInteger.valueOf(t));
        BigInteger whole = chance(n, m - 1, t, what).multiply(BigInteger.valueOf(10 - t));
        return torn.add(whole).add(what == 0 ? BigInteger.ZERO : BigInteger.TEN.pow(m));
    }

    int vespers(int courtier, int c) {
        if (!world.people.containsKey(courtier)) {
            return -1;
        }
        if (!in(c, 0, 999)) {
            return -2;
        }
        int pairs = world.people.values().stream().mapToInt(p -> p.pairs.size()).sum();
        if (pairs == 0) {
            return 0;
        }
        TreeMap<Integer, Integer> shares = new TreeMap<>();
        world.people.forEach((k, p) -> shares.put(k, c * p.pairs.size() / pairs));
        List<Integer> row = new ArrayList<>(world.people.keySet());
        row.sort((a, b) -> world.people.get(a).pairs.size() - world.people.get(b).pairs.size());
        int over = c - shares.values().stream().mapToInt(s -> s).sum();
        row.subList(0, over).forEach(k -> shares.merge(k, 1, Integer::sum));
        return shares.get(courtier);
    }

    int reign(int seed, int m, int what) {
        if (!in(seed, 0, 9999) || !in(m, 1, 99) || !in(what, 0, 2)) {
            return -2;
        }
        String kept = pad;
        World before = world.copy();
        List<int[]> together = new ArrayList<>();
        long x = seed;
        for (int i = 0; i < m; i++) {
            x = (75 * x + 74) % 65537;
            String who = "" + (char) ('A' + x % 6);
            String hour = String.format("%02d", x / 24 % 24);
            String[] ways = {".", who + "r" + hour, who + "l" + hour, who + "!"};
            pad = ways[(int) (x / 6 % 4)];
            if (look() == 0) {
                together.addAll(deeds);
                world = later;
            }
        }
        int scandals = world.people.values().stream().mapToInt(p -> p.scandals).sum();
        world = before;
        pad = kept;
        deeds = together;
        return what == 0 ? deeds.size() : what == 1 ? lates(1) : scandals;
    }

    int image(int k) {
        if (!in(k, 0, 1)) {
            return -2;
        }
        images[k] = world.copy();
        return 1;
    }

    int restore(int k) {
        if (!in(k, 0, 1)) {
            return -2;
        }
        if (images[k] == null) {
            return -3;
        }
        world = images[k].copy();
        return 1;
    }

    int told(int what) {
        switch (what) {
            case 0:
                return pad.length();
            case 1:
                return world.people.keySet().stream().mapToInt(c -> 1 << c).sum();
            case 2:
                return world.clock;
            case 3:
                return world.tears;
            case 4:
                return world.sights.size();
            default:
                break;
        }
        for (int c : world.people.keySet()) {
            Person p = world.people.get(c);
            int[] few = {p.left, p.right, p.scandals};
            for (int i = 0; i < 3; i++) {
                if (what == 10 * (1 + c) + i) {
                    return few[i];
                }
            }
            for (int hour = 0; hour < 24; hour++) {
                if (what == 100 * (1 + c) + hour) {
                    return p.pairs.getOrDefault(hour, -6);
                }
            }
        }
        return -2;
    }
}
