import java.util.Random;

/** Long runs of calls by a fixed seed, each answer against the model's; at the end of a run all that can be asked. */
public final class ModelTest {
    private static final int RUNS = 12000;
    /** An object is used for 512 calls; all that is asked at the end takes some 260 of them. */
    private static final int MOST_CALLS = 512, CALLS = 200;
    private static final int[] ODD = {-1, 4, 5, 12, 13, 21, 31, Integer.MIN_VALUE, Integer.MAX_VALUE};
    private static final long[] ODD_LONG = {-1, 0, Long.MIN_VALUE, Long.MAX_VALUE, 1000000000000L, 999999999999L};

    private final Due due = new Due();
    private final Random random = new Random(20261117);
    private TinselRiver river;
    private Model model;
    /** How many bends there are to choose from in this run: of few, more is alike. */
    private int letters;

    public static void main(String[] args) {
        ModelTest test = new ModelTest();
        for (int run = 0; run < RUNS && test.due.wrong() < 20; run++) {
            test.due.about("run " + run);
            test.run();
        }
        test.due.close();
    }

    private void run() {
        river = new TinselRiver();
        model = new Model();
        letters = 1 + random.nextInt(4);
        int before = due.asked();
        while (due.asked() - before < CALLS) {
            step();
        }
        askAll();
        int calls = due.asked() - before;
        if (calls > MOST_CALLS) {
            due.is("calls of one object", calls, MOST_CALLS);
        }
    }

    private void step() {
        int pick = random.nextInt(100);
        if (pick < 3) {
            tell(true);
        } else if (pick < 4) {
            tell(false);
        } else if (pick < 10) {
            makeBed();
        } else if (pick < 45) {
            act();
        } else if (pick < 50) {
            slot();
        } else if (pick < 80) {
            ask();
        } else {
            judge();
        }
    }

    /** Mostly a number as told, from 0 to below the bound. */
    private int number(int bound) {
        return random.nextInt(25) == 0 ? ODD[random.nextInt(ODD.length)] : random.nextInt(bound);
    }

    private String strandText() {
        StringBuilder b = new StringBuilder("S").append(random.nextInt(4) * random.nextInt(2)).append(random.nextInt(4));
        for (int n = 1 + random.nextInt(6); n > 0; n--) {
            b.append((char) ('a' + random.nextInt(letters)));
        }
        return b.toString();
    }

    private void tell(boolean right) {
        StringBuilder text = new StringBuilder("T");
        for (int n = right ? random.nextInt(10) == 0 ? random.nextInt(5) : 4 : random.nextInt(6); n > 0; n--) {
            text.append(strandText());
        }
        if (!right && random.nextBoolean()) {
            text.setCharAt(random.nextInt(text.length()), "TS012345abcdeX".charAt(random.nextInt(14)));
        }
        if (!right && random.nextBoolean()) {
            text.setLength(random.nextInt(text.length() + 1));
        }
        due.is("wipe()", river.wipe(), model.wipe());
        for (int i = 0; i < text.length(); i++) {
            due.is("write()", river.write(text.charAt(i)), model.write(text.charAt(i)));
        }
        due.is("fault() of " + text, river.fault(), model.fault());
        due.is("valley() of " + text, river.valley(), model.valley());
    }

    private void makeBed() {
        int n = number(13);
        long row = 0;
        for (int i = 0; i < Math.min(n, 14); i++) {
            row = 10 * row + 1 + random.nextInt(letters);
        }
        if (random.nextInt(10) == 0) {
            row = random.nextBoolean() ? random.nextInt(5000) : ODD_LONG[random.nextInt(ODD_LONG.length)];
        }
        due.is("bed(" + n + ", " + row + ")", river.bed(n, row), model.bed(n, row));
    }

    private void act() {
        int a = number(4);
        int b = number(4);
        switch (random.nextInt(9)) {
            case 0 -> due.is("winter()", river.winter(), model.winter());
            case 1, 2, 3 -> due.is("hang(" + a + ", " + b + ")", river.hang(a, b), model.hang(a, b));
            case 4 -> due.is("turn(" + a + ")", river.turn(a), model.turn(a));
            case 5 -> due.is("snip(" + a + ")", river.snip(a), model.snip(a));
            case 6 -> due.is("join(" + a + ", " + b + ")", river.join(a, b), model.join(a, b));
            default -> due.is("undo()", river.undo(), model.undo());
        }
        askState();
    }

    private void slot() {
        int slot = number(2);
        if (random.nextInt(3) > 0) {
            due.is("keep(" + slot + ")", river.keep(slot), model.keep(slot));
        } else {
            due.is("again(" + slot + ")", river.again(slot), model.again(slot));
        }
        askState();
    }

    private void judge() {
        int n = random.nextInt(30) == 0 ? ODD[random.nextInt(ODD.length)] : 1 + random.nextInt(4);
        long row = 0;
        for (int i = 0; i < Math.min(n, 4); i++) {
            int kind = random.nextInt(7);
            boolean alone = kind == 2 || kind == 3 || kind == 6;
            int first = kind == 0 || alone ? 0 : random.nextInt(4);
            int second = kind == 0 ? 0 : random.nextInt(kind == 5 ? 8 : 4);
            row = 1000 * row + 100 * kind + 10 * first + second;
        }
        if (random.nextInt(12) == 0) {
            row = random.nextBoolean() ? random.nextInt(100000) : ODD_LONG[random.nextInt(ODD_LONG.length)];
        }
        due.is("judge(" + n + ", " + row + ")", river.judge(n, row), model.judge(n, row));
    }

    private void ask() {
        int a = number(4);
        int b = number(4);
        int what = number(2);
        boolean upper = random.nextBoolean();
        long v = random.nextLong();
        switch (random.nextInt(16)) {
            case 0 -> due.is("later(" + a + ", " + b + ")", river.later(a, b), model.later(a, b));
            case 1 -> due.is("lasts(" + a + ")", river.lasts(a), model.lasts(a));
            case 2 -> due.is("overlap(" + a + ", " + b + ")", river.overlap(a, b), model.overlap(a, b));
            case 3 -> due.is("river(" + what + ")", river.river(what), model.river(what));
            case 4 -> due.is("covered()", river.covered(), model.covered());
            case 5 -> due.is("ways()", river.ways(), model.ways());
            case 6 -> due.is("unlay()", river.unlay(), model.unlay());
            case 7, 8, 9 -> lay(what);
            case 10 -> due.is("which(" + what + ")", river.which(what), model.which(what));
            case 11 -> due.is("share(" + a + ")", river.share(a, upper), model.share(a, upper));
            case 12 -> due.is("rests(" + a + ", " + b + ")", river.rests(a, b, what), model.rests(a, b, what));
            case 13 -> chance(upper);
            case 14 -> due.is("seed(" + v + ")", river.seed(v), model.seed(v));
            default -> due.is("strand(" + a + ", " + b + ")", river.strand(a, b), model.strand(a, b));
        }
    }

    private void lay(int lay) {
        int place = number(random.nextBoolean() ? 12 : 4);
        due.is("lay(" + place + ", " + lay + ")", river.lay(place, lay), model.lay(place, lay));
        due.is("which(0)", river.which(0), model.which(0));
        due.is("which(1)", river.which(1), model.which(1));
    }

    private void chance(boolean upper) {
        int x = number(11);
        int m = number(31);
        due.is("lost(" + x + ")", river.lost(x, upper), model.lost(x, upper));
        due.is("years(" + m + ")", river.years(m), model.years(m));
    }

    private void askState() {
        for (int what = 0; what < 9; what++) {
            due.is("count(" + what + ")", river.count(what), model.count(what));
        }
        for (int s = 0; s < 4; s++) {
            due.is("bends(" + s + ")", river.bends(s), model.bends(s));
            for (int what = 0; what < 4; what++) {
                due.is("strand(" + s + ", " + what + ")", river.strand(s, what), model.strand(s, what));
            }
        }
    }

    private void askAll() {
        askState();
        for (int s = -1; s <= 4; s++) {
            due.is("lasts(" + s + ")", river.lasts(s), model.lasts(s));
            due.is("share(" + s + ", true)", river.share(s, true), model.share(s, true));
            due.is("share(" + s + ", false)", river.share(s, false), model.share(s, false));
            for (int o = -1; o <= 4; o++) {
                due.is("overlap(" + s + ", " + o + ")", river.overlap(s, o), model.overlap(s, o));
                due.is("rests(" + s + ", " + o + ", 0)", river.rests(s, o, 0), model.rests(s, o, 0));
                due.is("rests(" + s + ", " + o + ", 1)", river.rests(s, o, 1), model.rests(s, o, 1));
            }
        }
        for (int n = -1; n <= 21; n++) {
            due.is("later(0, " + n + ")", river.later(0, n), model.later(0, n));
            due.is("lost(" + n + ", true)", river.lost(n, true), model.lost(n, true));
            due.is("lost(" + n + ", false)", river.lost(n, false), model.lost(n, false));
        }
        due.is("river(0)", river.river(0), model.river(0));
        due.is("river(1)", river.river(1), model.river(1));
        due.is("covered()", river.covered(), model.covered());
        due.is("ways()", river.ways(), model.ways());
        askState();
    }
}
