import java.math.BigInteger;
import java.util.ArrayDeque;
import java.util.ArrayList;
import java.util.Deque;
import java.util.List;
import java.util.regex.Matcher;
import java.util.regex.Pattern;

/** A second telling of the document, by texts and by trying all there is, with no thought for speed. */
final class Model {
    private static final int UNKNOWN = -1, OUTSIDE = -2, STATE = -3, FULL = -4, NONE = -9;

    /** Strands as texts of figures; an empty one is gone. */
    private static final class World {
        final List<String> bends = new ArrayList<>();
        final List<Integer> houses = new ArrayList<>();
        final List<Integer> kinds = new ArrayList<>();
        int year;

        World copy() {
            World w = new World();
            w.bends.addAll(bends);
            w.houses.addAll(houses);
            w.kinds.addAll(kinds);
            w.year = year;
            return w;
        }

        boolean has(int s) {
            return s >= 0 && s < bends.size() && !bends.get(s).isEmpty();
        }

        List<Integer> there() {
            List<Integer> all = new ArrayList<>();
            for (int s = 0; s < bends.size(); s++) {
                if (has(s)) {
                    all.add(s);
                }
            }
            return all;
        }

        long inHouse(int house) {
            return there().stream().filter(s -> houses.get(s) == house).count();
        }

        void cut(int s, boolean first) {
            String b = bends.get(s);
            if (!b.isEmpty()) {
                bends.set(s, first ? b.substring(1) : b.substring(0, b.length() - 1));
            }
        }

        int winter() {
            int before = there().size();
            for (int s = 0; s < bends.size(); s++) {
                if (!has(s)) {
                    continue;
                }
                boolean crowd = inHouse(houses.get(s)) >= 3;
                if (kinds.get(s) <= 1 && crowd) {
                    cut(s, false);
                }
                if (kinds.get(s) == 1 && crowd) {
                    cut(s, true);
                }
                if (kinds.get(s) == 3) {
                    for (int o : there()) {
                        if (o != s && houses.get(o).equals(houses.get(s))) {
                            cut(o, true);
                        }
                    }
                }
            }
            year++;
            return before - there().size();
        }

        int hang(int s, int house) {
            if (!has(s) || house < 0 || house > 3) {
                return UNKNOWN;
            }
            if (houses.get(s) == house) {
                return STATE;
            }
            houses.set(s, house);
            return (int) inHouse(house);
        }

        int turn(int s) {
            if (!has(s)) {
                return UNKNOWN;
            }
            bends.set(s, new StringBuilder(bends.get(s)).reverse().toString());
            return bends.get(s).charAt(0) - '0';
        }

        int snip(int s) {
            if (!has(s)) {
                return UNKNOWN;
            }
            String b = bends.get(s);
            if (b.length() < 2) {
                return STATE;
            }
            cut(s, false);
            return b.charAt(b.length() - 1) - '0';
        }

        int join(int one, int other) {
            if (!has(one) || !has(other)) {
                return UNKNOWN;
            }
            if (one == other) {
                return OUTSIDE;
            }
            if (!houses.get(one).equals(houses.get(other))) {
                return STATE;
            }
            String both = joined(bends.get(one), bends.get(other));
            if (both.length() > 12) {
                return FULL;
            }
            bends.set(one, both);
            bends.set(other, "");
            return both.length();
        }

        int total() {
            return String.join("", bends).length();
        }
    }

    private String text = "";
    private World world = new World();
    private String bed = "";
    private final Deque<World> acts = new ArrayDeque<>();
    private final World[] slots = new World[2];
    private final List<int[]> laid = new ArrayList<>();
    private BigInteger seed = BigInteger.ZERO;

    private static int overlapOf(String one, String other) {
        int most = 0;
        for (int n = 1; n <= one.length() && n <= other.length(); n++) {
            if (one.endsWith(other.substring(0, n))) {
                most = n;
            }
        }
        return most;
    }

    private static String joined(String one, String other) {
        return one + other.substring(overlapOf(one, other));
    }

    int write(int letter) {
        if (letter < 0 || letter > 255) {
            return OUTSIDE;
        }
        if (text.length() == 48) {
            return FULL;
        }
        text += (char) letter;
        return text.length();
    }

    int wipe() {
        int n = text.length();
        text = "";
        return n;
    }

    private static final Pattern WHOLE = Pattern.compile("T(S[0-3][0-3][a-d]{1,6}){0,4}");

    int fault() {
        Matcher m = WHOLE.matcher(text);
        if (m.matches()) {
            return NONE;
        }
        for (int n = 1; n <= text.length(); n++) {
            Matcher begin = WHOLE.matcher(text.substring(0, n));
            // A begin can still become a valley if it is one, or if it was read to its end and more was asked for.
            if (!begin.matches() && !begin.hitEnd()) {
                return n - 1;
            }
        }
        return text.length();
    }

    int valley() {
        if (fault() != NONE) {
            return STATE;
        }
        world = new World();
        Matcher m = Pattern.compile("S(.)(.)([a-d]+)").matcher(text);
        while (m.find()) {
            world.houses.add(Integer.parseInt(m.group(1)));
            world.kinds.add(Integer.parseInt(m.group(2)));
            world.bends.add(m.group(3).replace('a', '1').replace('b', '2').replace('c', '3').replace('d', '4'));
        }
        acts.clear();
        slots[0] = null;
        slots[1] = null;
        return world.bends.size();
    }

    int bed(int n, long row) {
        if (n < 0 || n > 12 || !(n == 0 ? row == 0 : Long.toString(row).matches("[1-4]{" + n + "}"))) {
            return OUTSIDE;
        }
        int before = bed.length();
        bed = n == 0 ? "" : Long.toString(row);
        return before;
    }

    private static int orNone(int place) {
        return place < 0 ? NONE : place;
    }

    int strand(int s, int what) {
        if (!world.has(s)) {
            return UNKNOWN;
        }
        if (what < 0 || what > 3) {
            return OUTSIDE;
        }
        int[] all = {world.houses.get(s), world.kinds.get(s), world.bends.get(s).length(),
            orNone(bed.indexOf(world.bends.get(s)))};
        return all[what];
    }

    long bends(int s) {
        return world.has(s) ? Long.parseLong(world.bends.get(s)) : UNKNOWN;
    }

    private int act(World next, int answer) {
        if (answer >= 0) {
            acts.addLast(world);
            world = next;
            if (acts.size() > 14) {
                acts.removeFirst();
            }
        }
        return answer;
    }

    int winter() {
        World w = world.copy();
        return act(w, w.winter());
    }

    int hang(int s, int house) {
        World w = world.copy();
        return act(w, w.hang(s, house));
    }

    int turn(int s) {
        World w = world.copy();
        return act(w, w.turn(s));
    }

    int snip(int s) {
        World w = world.copy();
        return act(w, w.snip(s));
    }

    int join(int one, int other) {
        World w = world.copy();
        return act(w, w.join(one, other));
    }

    int undo() {
        if (acts.isEmpty()) {
            return STATE;
        }
        world = acts.removeLast();
        return acts.size();
    }

    private int bendsIn(int s, int winters) {
        World w = world.copy();
        for (int i = 0; i < winters; i++) {
            w.winter();
        }
        return w.bends.get(s).length();
    }

    int later(int s, int n) {
        return !world.has(s) ? UNKNOWN : n < 0 || n > 20 ? OUTSIDE : bendsIn(s, n);
    }

    int lasts(int s) {
        if (!world.has(s)) {
            return UNKNOWN;
        }
        int n = 1;
        while (n <= 20 && bendsIn(s, n) > 0) {
            n++;
        }
        return n > 20 ? NONE : n;
    }

    int overlap(int one, int other) {
        return !world.has(one) || !world.has(other) ? UNKNOWN
            : one == other ? OUTSIDE : overlapOf(world.bends.get(one), world.bends.get(other));
    }

    private static List<List<Integer>> orders(List<Integer> all) {
        List<List<Integer>> found = new ArrayList<>();
        if (all.isEmpty()) {
            found.add(new ArrayList<>());
        }
        for (Integer first : all) {
            List<Integer> rest = new ArrayList<>(all);
            rest.remove(first);
            for (List<Integer> order : orders(rest)) {
                order.add(0, first);
                found.add(order);
            }
        }
        return found;
    }

    int river(int what) {
        if (what < 0 || what > 1) {
            return OUTSIDE;
        }
        long best = Long.MAX_VALUE;
        for (List<Integer> order : orders(world.there())) {
            String row = "";
            int figures = 0;
            for (int s : order) {
                row = joined(row, world.bends.get(s));
                figures = 10 * figures + s + 1;
            }
            best = Math.min(best, 100000L * row.length() + figures);
        }
        return (int) (what == 0 ? best / 100000 : best % 100000);
    }

    private int coverOf(List<Integer> strands) {
        int bits = 0;
        for (int s : strands) {
            String b = world.bends.get(s);
            for (int at = bed.indexOf(b); at >= 0; at = bed.indexOf(b, at + 1)) {
                for (int i = 0; i < b.length(); i++) {
                    bits |= 1 << at + i;
                }
            }
        }
        return bits;
    }

    int covered() {
        return coverOf(world.there());
    }

    int ways() {
        return waysOf(world.there(), "-".repeat(bed.length()));
    }

    private int waysOf(List<Integer> strands, String laidOn) {
        if (strands.isEmpty()) {
            return laidOn.contains("-") ? 0 : 1;
        }
        String b = world.bends.get(strands.get(0));
        int sum = 0;
        for (int at = bed.indexOf(b); at >= 0; at = bed.indexOf(b, at + 1)) {
            sum += waysOf(strands.subList(1, strands.size()),
                laidOn.substring(0, at) + "x".repeat(b.length()) + laidOn.substring(at + b.length()));
        }
        return sum;
    }

    int judge(int n, long row) {
        if (n < 1 || n > 4 || row < 0 || Long.toString(row).length() > 3 * n) {
            return OUTSIDE;
        }
        String figures = "0".repeat(3 * n - Long.toString(row).length()) + row;
        World w = world.copy();
        for (int i = 0; i < n; i++) {
            if (!judged(w, figures.substring(3 * i, 3 * i + 3))) {
                return i;
            }
        }
        return NONE;
    }

    private boolean judged(World w, String doing) {
        int a = doing.charAt(1) - '0';
        int b = doing.charAt(2) - '0';
        if (doing.matches("000")) {
            return w.winter() >= 0;
        }
        if (doing.matches("1..")) {
            return w.hang(a, b) >= 0;
        }
        if (doing.matches("20.")) {
            return w.turn(b) >= 0;
        }
        if (doing.matches("30.")) {
            return w.snip(b) >= 0;
        }
        if (doing.matches("4..")) {
            return w.join(a, b) >= 0;
        }
        if (doing.matches("5..")) {
            return w.has(a) && w.bends.get(a).length() >= b;
        }
        return doing.matches("60.") && w.has(b) && bed.contains(w.bends.get(b));
    }

    int lay(int place, int lay) {
        if (place < 0 || place > 11 || lay < 0 || lay > 1) {
            return OUTSIDE;
        }
        if (laid.size() == 6) {
            return FULL;
        }
        laid.add(new int[] {place, lay});
        return laid.size();
    }

    int unlay() {
        int n = laid.size();
        laid.clear();
        return n;
    }

    int which(int what) {
        if (what < 0 || what > 1) {
            return OUTSIDE;
        }
        int many = 0;
        int first = NONE;
        for (int number = 1; number <= 444; number++) {
            String row = Integer.toString(number);
            boolean so = row.matches("[1-4]+");
            for (int[] one : laid) {
                so = so && bed.startsWith(row, one[0]) == (one[1] == 1);
            }
            if (so) {
                first = many == 0 ? number : first;
                many++;
            }
        }
        return what == 0 ? many : first;
    }

    private static int fraction(long above, long below, boolean upper) {
        BigInteger a = BigInteger.valueOf(above);
        BigInteger b = BigInteger.valueOf(below);
        BigInteger d = a.gcd(b);
        return (upper ? a : b).divide(d).intValueExact();
    }

    int share(int s, boolean upper) {
        if (!world.has(s)) {
            return UNKNOWN;
        }
        long more = 0;
        List<List<Integer>> all = orders(world.there());
        for (List<Integer> order : all) {
            int at = order.indexOf(s);
            more += Integer.bitCount(coverOf(order.subList(0, at + 1))) - Integer.bitCount(coverOf(order.subList(0, at)));
        }
        return fraction(more, all.size(), upper);
    }

    private int gain(int one, int house, int other, int otherHouse) {
        World w = world.copy();
        w.houses.set(one, house);
        w.houses.set(other, otherHouse);
        w.winter();
        return 2 * w.bends.get(one).length() + (world.houses.get(one) == house ? 1 : 0);
    }

    int rests(int one, int other, int what) {
        if (!world.has(one) || !world.has(other)) {
            return UNKNOWN;
        }
        if (one == other || what < 0 || what > 1) {
            return OUTSIDE;
        }
        List<Integer> found = new ArrayList<>();
        for (int h = 0; h < 4; h++) {
            for (int g = 0; g < 4; g++) {
                boolean rest = true;
                for (int e = 0; e < 4; e++) {
                    rest = rest && gain(one, e, other, g) <= gain(one, h, other, g)
                        && gain(other, e, one, h) <= gain(other, g, one, h);
                }
                if (rest) {
                    found.add(10 * h + g);
                }
            }
        }
        return what == 0 ? found.size() : found.isEmpty() ? NONE : found.get(0);
    }

    int lost(int x, boolean upper) {
        if (x < 0 || x > 10) {
            return OUTSIDE;
        }
        List<Integer> there = world.there();
        int whole = (1 << bed.length()) - 1;
        long sum = 0;
        for (int set = 0; set < 1 << there.size(); set++) {
            List<Integer> left = new ArrayList<>();
            long chance = 1;
            for (int i = 0; i < there.size(); i++) {
                boolean stays = (set >> i & 1) == 1;
                chance *= stays ? 10 - x : x;
                if (stays) {
                    left.add(there.get(i));
                }
            }
            sum += coverOf(left) == whole ? chance : 0;
        }
        return fraction(sum, (long) Math.pow(10, there.size()), upper);
    }

    long seed(long v) {
        long before = seed.longValue();
        seed = BigInteger.valueOf(v);
        return before;
    }

    int years(int m) {
        if (m < 1 || m > 30) {
            return OUTSIDE;
        }
        World w = world.copy();
        int sum = 0;
        for (int i = 0; i < m; i++) {
            seed = seed.multiply(new BigInteger("6364136223846793005")).add(new BigInteger("1442695040888963407"))
                .mod(BigInteger.ONE.shiftLeft(64));
            int left = seed.shiftRight(33).mod(BigInteger.valueOf(32)).intValue();
            if (left <= 15) {
                w.hang(left / 4, left % 4);
            } else if (left <= 19) {
                w.turn(left - 16);
            } else if (left <= 22) {
                w.join(left - 20, left - 20 + 1);
            } else {
                w.winter();
            }
            sum += w.total();
        }
        return sum;
    }

    int keep(int slot) {
        if (slot < 0 || slot > 1) {
            return UNKNOWN;
        }
        slots[slot] = world.copy();
        return world.year;
    }

    int again(int slot) {
        if (slot < 0 || slot > 1) {
            return UNKNOWN;
        }
        if (slots[slot] == null) {
            return STATE;
        }
        world = slots[slot].copy();
        acts.clear();
        return world.year;
    }

    int count(int what) {
        int who = 0;
        int houses = 0;
        for (int s : world.there()) {
            who |= 1 << s;
            houses |= 1 << world.houses.get(s);
        }
        int[] all = {text.length(), world.bends.size(), who, world.total(), world.year, bed.length(), houses,
            acts.size(), laid.size()};
        return what < 0 || what >= all.length ? OUTSIDE : all[what];
    }
}
