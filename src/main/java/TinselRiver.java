/** Strands of tinsel in four houses, a bed that they lie in, and what winters make of them. */
public final class TinselRiver {
    public static final int UNKNOWN = -1, OUTSIDE = -2, STATE = -3, FULL = -4, NONE = -9;

    private static final int STRANDS = 4;
    private static final int HOUSES = 4;
    private static final int KINDS = 4;
    private static final int BENDS = 4;
    private static final int TOLD_BENDS = 6;
    private static final int LONGEST = 12;
    private static final int LETTERS = 48;
    private static final int ACTS = 14;
    private static final int SLOTS = 2;
    private static final int WINTERS = 20;
    private static final int DOINGS = 4;
    private static final int LAID = 6;
    private static final int YEARS = 30;
    private static final int TENTHS = 10;
    private static final int CROWD = 3;

    private static final int PLAIN = 0, THIN = 1, FLOOD = 3;

    private static final long SEED_FACTOR = 6364136223846793005L;
    private static final long SEED_STEP = 1442695040888963407L;

    private final Text text = new Text();
    private final Valley valley = new Valley();
    /** What doings are tried on, so that the valley itself stays as it is. */
    private final Valley trial = new Valley();
    private final Acts acts = new Acts();
    private final Slots slots = new Slots();
    private final Laid laid = new Laid();
    private final Row bed = new Row(LONGEST);
    /** Room for all strands one behind the other. */
    private final Row stream = new Row(STRANDS * LONGEST);
    private final Row guess = new Row(LONGEST);
    private final int[] covers = new int[STRANDS];
    private final int[] gainsOfOne = new int[HOUSES * HOUSES];
    private final int[] gainsOfOther = new int[HOUSES * HOUSES];
    private long seed;

    public TinselRiver() {
        seed = 0L;
    }

    // ---- the valley

    public int write(int letter) {
        if (letter < 0 || letter > 255) {
            return OUTSIDE;
        }
        return text.add(letter);
    }

    public int wipe() {
        return text.clear();
    }

    public int fault() {
        return text.firstFault();
    }

    public int valley() {
        if (text.firstFault() != NONE) {
            return STATE;
        }
        text.tellTo(valley);
        acts.clear();
        slots.clear();
        return valley.told;
    }

    public int bed(int n, long row) {
        if (n < 0 || n > LONGEST || !isRowOfBends(n, row)) {
            return OUTSIDE;
        }
        int before = bed.size;
        bed.setFigures(n, row);
        return before;
    }

    public int strand(int strand, int what) {
        if (!valley.has(strand)) {
            return UNKNOWN;
        }
        Strand found = valley.strands[strand];
        switch (what) {
            case 0:
                return found.house;
            case 1:
                return found.kind;
            case 2:
                return found.row.size;
            case 3:
                return bed.firstPlaceOf(found.row);
            default:
                return OUTSIDE;
        }
    }

    public long bends(int strand) {
        return valley.has(strand) ? valley.strands[strand].row.figures() : UNKNOWN;
    }

    private static boolean isRowOfBends(int n, long row) {
        long rest = row;
        for (int i = 0; i < n; i++) {
            long figure = rest % 10;
            if (figure < 1 || figure > BENDS) {
                return false;
            }
            rest = rest / 10;
        }
        return rest == 0;
    }

    // ---- acts

    public int winter() {
        trial.setTo(valley);
        return take(trial.passWinter());
    }

    public int hang(int strand, int house) {
        trial.setTo(valley);
        return take(trial.hangIn(strand, house));
    }

    public int turn(int strand) {
        trial.setTo(valley);
        return take(trial.turnAbout(strand));
    }

    public int snip(int strand) {
        trial.setTo(valley);
        return take(trial.snipEnd(strand));
    }

    public int join(int one, int other) {
        trial.setTo(valley);
        return take(trial.joinTo(one, other));
    }

    public int undo() {
        return acts.takeBack(valley);
    }

    /** An act that was not refused on the trial becomes one of the valley. */
    private int take(int answer) {
        if (answer >= 0) {
            acts.remember(valley);
            valley.setTo(trial);
        }
        return answer;
    }

    // ---- winters to come, the river

    public int later(int strand, int n) {
        if (!valley.has(strand)) {
            return UNKNOWN;
        }
        if (n < 0 || n > WINTERS) {
            return OUTSIDE;
        }
        trial.setTo(valley);
        for (int i = 0; i < n; i++) {
            trial.passWinter();
        }
        return trial.strands[strand].row.size;
    }

    public int lasts(int strand) {
        if (!valley.has(strand)) {
            return UNKNOWN;
        }
        trial.setTo(valley);
        for (int n = 1; n <= WINTERS; n++) {
            trial.passWinter();
            if (!trial.has(strand)) {
                return n;
            }
        }
        return NONE;
    }

    public int overlap(int one, int other) {
        if (!valley.has(one) || !valley.has(other)) {
            return UNKNOWN;
        }
        if (one == other) {
            return OUTSIDE;
        }
        return valley.strands[one].row.overlapWith(valley.strands[other].row);
    }

    public int river(int what) {
        if (what != 0 && what != 1) {
            return OUTSIDE;
        }
        int length = Integer.bitCount(valley.whoIsThere());
        int fewest = -1;
        int best = 0;
        // Codes of four figures 0 to 3 go up as the orders do, so the first of like ones is the least.
        for (int code = 0; code < 1 << (2 * length); code++) {
            if (!isOrder(code, length)) {
                continue;
            }
            int order = flow(code, length);
            if (fewest < 0 || stream.size < fewest) {
                fewest = stream.size;
                best = order;
            }
        }
        return what == 0 ? fewest : best;
    }

    /** Whether the code names each strand that is there once. */
    private boolean isOrder(int code, int length) {
        int named = 0;
        for (int i = 0; i < length; i++) {
            named |= 1 << figureOf(code, length, i);
        }
        return named == valley.whoIsThere();
    }

    /** Lets the stream be the strands by that order; answers the order as figures. */
    private int flow(int code, int length) {
        int order = 0;
        stream.clear();
        for (int i = 0; i < length; i++) {
            int strand = figureOf(code, length, i);
            stream.addBehind(valley.strands[strand].row);
            order = 10 * order + strand + 1;
        }
        return order;
    }

    /** The figure (0 to 3) at a place of a code of that length, the uppermost at place 0. */
    private static int figureOf(int code, int length, int place) {
        return (code >> (2 * (length - 1 - place))) & 3;
    }

    public int covered() {
        findCovers();
        int all = 0;
        for (int i = 0; i < STRANDS; i++) {
            all |= covers[i];
        }
        return all;
    }

    /** Sets for each strand the places of the bed on which it lies; 0 for one that is not there. */
    private void findCovers() {
        for (int i = 0; i < STRANDS; i++) {
            covers[i] = valley.has(i) ? bed.placesUnder(valley.strands[i].row) : 0;
        }
    }

    private int wholeBed() {
        return (1 << bed.size) - 1;
    }

    public int ways() {
        return waysFrom(valley, bed, 0, 0);
    }

    /** In how many ways the strands from that one on make what is covered already all of the bed. */
    private static int waysFrom(Valley valley, Row bed, int strand, int already) {
        if (strand >= STRANDS) {
            return Integer.bitCount(already) == bed.size ? 1 : 0;
        }
        if (!valley.has(strand)) {
            return waysFrom(valley, bed, strand + 1, already);
        }
        // Where all that is to come is too short for what is open, no place needs to be tried.
        if (bed.size - Integer.bitCount(already) > valley.bendsFrom(strand)) {
            return 0;
        }
        Row row = valley.strands[strand].row;
        int found = 0;
        for (int place = 0; place + row.size <= bed.size; place++) {
            if (bed.bearsAt(place, row)) {
                found += waysFrom(valley, bed, strand + 1, already | row.bitsAt(place));
            }
        }
        return found;
    }

    public int judge(int n, long row) {
        if (n < 1 || n > DOINGS) {
            return OUTSIDE;
        }
        long bound = 1;
        for (int i = 0; i < n; i++) {
            bound *= 1000;
        }
        if (row < 0 || row >= bound) {
            return OUTSIDE;
        }
        trial.setTo(valley);
        long rest = row;
        for (int i = 0; i < n; i++) {
            bound = Math.max(bound / 1000, 1L);
            if (!canBe((int) (rest / bound))) {
                return i;
            }
            rest = rest % bound;
        }
        return NONE;
    }

    /** Does on the trial what three figures tell; whether it could be done, or is so. */
    private boolean canBe(int doing) {
        int first = doing / 10 % 10;
        int second = doing % 10;
        switch (doing / 100) {
            case 0:
                return doing == 0 && trial.passWinter() >= 0;
            case 1:
                return trial.hangIn(first, second) >= 0;
            case 2:
                return first == 0 && trial.turnAbout(second) >= 0;
            case 3:
                return first == 0 && trial.snipEnd(second) >= 0;
            case 4:
                return trial.joinTo(first, second) >= 0;
            case 5:
                return trial.has(first) && trial.strands[first].row.size >= second;
            case 6:
                return first == 0 && trial.has(second)
                    && bed.firstPlaceOf(trial.strands[second].row) != NONE;
            default:
                return false;
        }
    }

    // ---- laid

    public int lay(int place, int lay) {
        if (place < 0 || place >= LONGEST || lay < 0 || lay > 1) {
            return OUTSIDE;
        }
        return laid.add(place, lay == 1);
    }

    public int unlay() {
        return laid.clear();
    }

    public int which(int what) {
        if (what != 0 && what != 1) {
            return OUTSIDE;
        }
        int found = 0;
        // Shorter rows are lesser numbers, and codes go up as the numbers do.
        for (int length = 1; length <= 3; length++) {
            for (int code = 0; code < 1 << (2 * length); code++) {
                guessRow(code, length);
                if (!laid.isSo(guess, bed)) {
                    continue;
                }
                if (what == 1) {
                    return (int) guess.figures();
                }
                found++;
            }
        }
        return what == 0 ? found : NONE;
    }

    private void guessRow(int code, int length) {
        guess.clear();
        for (int i = 0; i < length; i++) {
            guess.add(figureOf(code, length, i) + 1);
        }
    }

    // ---- shares, rests, chances

    public int share(int strand, boolean upper) {
        if (!valley.has(strand)) {
            return UNKNOWN;
        }
        findCovers();
        // Of those who lie on a place each is as likely the first to come, so they share it alike;
        // four at most do, and twelfths hold halves, thirds and fourths.
        int twelfths = 0;
        for (int place = 0; place < bed.size; place++) {
            if ((covers[strand] >> place & 1) == 1) {
                twelfths += 12 / Math.max(coversOn(place), 1);
            }
        }
        return partOfFraction(twelfths, 12, upper);
    }

    private int coversOn(int place) {
        int lying = 0;
        for (int i = 0; i < STRANDS; i++) {
            lying += covers[i] >> place & 1;
        }
        return lying;
    }

    public int rests(int one, int other, int what) {
        if (!valley.has(one) || !valley.has(other)) {
            return UNKNOWN;
        }
        if (one == other || what < 0 || what > 1) {
            return OUTSIDE;
        }
        findGains(one, other);
        int found = 0;
        for (int pair = 0; pair < HOUSES * HOUSES; pair++) {
            if (!isRest(pair)) {
                continue;
            }
            if (what == 1) {
                return 10 * (pair / HOUSES) + pair % HOUSES;
            }
            found++;
        }
        return what == 0 ? found : NONE;
    }

    /** What each of the two has by each pair of houses: the one's house times four, and the other's. */
    private void findGains(int one, int other) {
        for (int pair = 0; pair < HOUSES * HOUSES; pair++) {
            trial.setTo(valley);
            trial.strands[one].house = pair / HOUSES;
            trial.strands[other].house = pair % HOUSES;
            trial.passWinter();
            gainsOfOne[pair] = gainOf(one);
            gainsOfOther[pair] = gainOf(other);
        }
    }

    private int gainOf(int strand) {
        int stays = trial.strands[strand].house == valley.strands[strand].house ? 1 : 0;
        return 2 * trial.strands[strand].row.size + stays;
    }

    private boolean isRest(int pair) {
        int mine = pair / HOUSES;
        int yours = pair % HOUSES;
        for (int house = 0; house < HOUSES; house++) {
            if (gainsOfOne[HOUSES * house + yours] > gainsOfOne[pair]
                || gainsOfOther[HOUSES * mine + house] > gainsOfOther[pair]) {
                return false;
            }
        }
        return true;
    }

    public int lost(int x, boolean upper) {
        if (x < 0 || x > TENTHS) {
            return OUTSIDE;
        }
        findCovers();
        int there = valley.whoIsThere();
        int chances = 0;
        int all = 1;
        for (int left = 0; left < 1 << STRANDS; left++) {
            if ((left & ~there) == 0 && coveredBy(left) == wholeBed()) {
                chances += chanceOf(left, there, x);
            }
        }
        for (int i = Integer.bitCount(there); i > 0; i--) {
            all *= TENTHS;
        }
        return partOfFraction(chances, all, upper);
    }

    private int coveredBy(int strands) {
        int places = 0;
        for (int i = 0; i < STRANDS; i++) {
            places |= (strands >> i & 1) == 1 ? covers[i] : 0;
        }
        return places;
    }

    /** That just those are left of who is there: as many as of ten for each who is there, multiplied. */
    private static int chanceOf(int left, int there, int x) {
        int chance = 1;
        for (int i = 0; i < STRANDS; i++) {
            if ((there >> i & 1) == 1) {
                chance *= (left >> i & 1) == 1 ? TENTHS - x : x;
            }
        }
        return chance;
    }

    private static int partOfFraction(int above, int below, boolean upper) {
        int divisor = Math.max(commonDivisor(above, below), 1);
        return (upper ? above : below) / divisor;
    }

    private static int commonDivisor(int above, int below) {
        int a = above;
        int b = below;
        for (int i = 0; i < 64 && b != 0; i++) {
            int rest = a % b;
            a = b;
            b = rest;
        }
        return a;
    }

    public long seed(long v) {
        long before = seed;
        seed = v;
        return before;
    }

    public int years(int m) {
        if (m < 1 || m > YEARS) {
            return OUTSIDE;
        }
        trial.setTo(valley);
        int together = 0;
        for (int i = 0; i < m; i++) {
            seed = seed * SEED_FACTOR + SEED_STEP;
            doByChance((int) (seed >>> 33) & 31);
            together += trial.bendsFrom(0);
        }
        return together;
    }

    /** What can not be is refused by the trial and changes nothing. */
    private void doByChance(int chance) {
        if (chance < 16) {
            trial.hangIn(chance / 4, chance % 4);
        } else if (chance < 20) {
            trial.turnAbout(chance - 16);
        } else if (chance < 23) {
            trial.joinTo(chance - 20, chance - 19);
        } else {
            trial.passWinter();
        }
    }

    // ---- slots

    public int keep(int slot) {
        return slots.put(slot, valley);
    }

    public int again(int slot) {
        int year = slots.bringBack(slot, valley);
        if (year >= 0) {
            acts.clear();
        }
        return year;
    }

    public int count(int what) {
        switch (what) {
            case 0:
                return text.size;
            case 1:
                return valley.told;
            case 2:
                return valley.whoIsThere();
            case 3:
                return valley.bendsFrom(0);
            case 4:
                return valley.year;
            case 5:
                return bed.size;
            case 6:
                return valley.housesInUse();
            case 7:
                return acts.size;
            case 8:
                return laid.size;
            default:
                return OUTSIDE;
        }
    }

    /** A row of bends (1 to 4), never more than it has room for. */
    private static final class Row {
        private final int[] bends;
        private int size;

        Row(int room) {
            bends = new int[Math.max(room, 0)];
            size = 0;
        }

        void clear() {
            size = 0;
        }

        void add(int bend) {
            if (size < bends.length) {
                bends[size] = bend;
                size++;
            }
        }

        void setTo(Row other) {
            size = Math.min(other.size, bends.length);
            for (int i = 0; i < size; i++) {
                bends[i] = other.bends[i];
            }
        }

        void setFigures(int n, long figures) {
            size = Math.max(Math.min(n, bends.length), 0);
            long rest = figures;
            for (int i = size - 1; i >= 0; i--) {
                bends[i] = (int) (rest % 10);
                rest = rest / 10;
            }
        }

        long figures() {
            long all = 0;
            for (int i = 0; i < size; i++) {
                all = 10 * all + bends[i];
            }
            return all;
        }

        void loseLast() {
            if (size > 0) {
                size--;
            }
        }

        void loseFirst() {
            if (size > 0) {
                for (int i = 1; i < size; i++) {
                    bends[i - 1] = bends[i];
                }
                size--;
            }
        }

        void reverse() {
            for (int i = 0; i < size / 2; i++) {
                int bend = bends[i];
                bends[i] = bends[size - 1 - i];
                bends[size - 1 - i] = bend;
            }
        }

        /** By how many bends, at most, the end of this one is as the begin of the next. */
        int overlapWith(Row next) {
            for (int n = Math.min(size, next.size); n > 0; n--) {
                if (endsAs(next, n)) {
                    return n;
                }
            }
            return 0;
        }

        private boolean endsAs(Row next, int n) {
            for (int i = 0; i < n; i++) {
                if (bends[size - n + i] != next.bends[i]) {
                    return false;
                }
            }
            return true;
        }

        void addBehind(Row next) {
            for (int i = overlapWith(next); i < next.size; i++) {
                add(next.bends[i]);
            }
        }

        /** Whether the part lies in this row from that place on, all within it. */
        boolean bearsAt(int place, Row part) {
            if (place < 0 || place > size - part.size) {
                return false;
            }
            for (int i = 0; i < part.size; i++) {
                if (bends[place + i] != part.bends[i]) {
                    return false;
                }
            }
            return true;
        }

        int firstPlaceOf(Row part) {
            for (int place = 0; place < size; place++) {
                if (bearsAt(place, part)) {
                    return place;
                }
            }
            return NONE;
        }

        /** As many bits as this row has bends, from that place on. */
        int bitsAt(int place) {
            return ((1 << size) - 1) << place;
        }

        int placesUnder(Row part) {
            int places = 0;
            for (int place = 0; place < size; place++) {
                if (bearsAt(place, part)) {
                    places |= part.bitsAt(place);
                }
            }
            return places;
        }
    }

    /** A strand; it is gone when it has no bend. */
    private static final class Strand {
        private final Row row = new Row(LONGEST);
        private int house;
        private int kind;

        void setTo(Strand other) {
            row.setTo(other.row);
            house = other.house;
            kind = other.kind;
        }
    }

    /** All strands that were told, and the year; its doings answer as the calls do, and refuse as they do. */
    private static final class Valley {
        private final Strand[] strands = new Strand[STRANDS];
        private int told;
        private int year;

        Valley() {
            for (int i = 0; i < STRANDS; i++) {
                strands[i] = new Strand();
            }
        }

        void clear() {
            told = 0;
            year = 0;
        }

        void setTo(Valley other) {
            told = other.told;
            year = other.year;
            for (int i = 0; i < told; i++) {
                strands[i].setTo(other.strands[i]);
            }
        }

        void begin(int house, int kind) {
            if (told < STRANDS) {
                strands[told].house = house;
                strands[told].kind = kind;
                strands[told].row.clear();
                told++;
            }
        }

        void bendLast(int bend) {
            if (told > 0) {
                strands[told - 1].row.add(bend);
            }
        }

        boolean has(int strand) {
            return strand >= 0 && strand < told && strands[strand].row.size > 0;
        }

        int whoIsThere() {
            int bits = 0;
            for (int i = 0; i < told; i++) {
                bits |= has(i) ? 1 << i : 0;
            }
            return bits;
        }

        int bendsFrom(int strand) {
            int sum = 0;
            for (int i = Math.max(strand, 0); i < told; i++) {
                sum += strands[i].row.size;
            }
            return sum;
        }

        int housesInUse() {
            int bits = 0;
            for (int i = 0; i < told; i++) {
                bits |= has(i) ? 1 << strands[i].house : 0;
            }
            return bits;
        }

        private int countIn(int house) {
            int found = 0;
            for (int i = 0; i < told; i++) {
                if (has(i) && strands[i].house == house) {
                    found++;
                }
            }
            return found;
        }

        int passWinter() {
            int before = Integer.bitCount(whoIsThere());
            for (int i = 0; i < told; i++) {
                if (has(i)) {
                    winterOf(i);
                }
            }
            year++;
            return before - Integer.bitCount(whoIsThere());
        }

        private void winterOf(int strand) {
            Strand now = strands[strand];
            if (now.kind == FLOOD) {
                floodFrom(strand);
            } else if ((now.kind == PLAIN || now.kind == THIN) && countIn(now.house) >= CROWD) {
                now.row.loseLast();
                if (now.kind == THIN) {
                    now.row.loseFirst();
                }
            }
        }

        private void floodFrom(int flood) {
            for (int i = 0; i < told; i++) {
                if (i != flood && strands[i].house == strands[flood].house) {
                    strands[i].row.loseFirst();
                }
            }
        }

        int hangIn(int strand, int house) {
            if (!has(strand) || house < 0 || house >= HOUSES) {
                return UNKNOWN;
            }
            if (strands[strand].house == house) {
                return STATE;
            }
            strands[strand].house = house;
            return countIn(house);
        }

        int turnAbout(int strand) {
            if (!has(strand)) {
                return UNKNOWN;
            }
            strands[strand].row.reverse();
            return strands[strand].row.bends[0];
        }

        int snipEnd(int strand) {
            if (!has(strand)) {
                return UNKNOWN;
            }
            Row row = strands[strand].row;
            if (row.size < 2) {
                return STATE;
            }
            row.loseLast();
            return row.bends[row.size];
        }

        int joinTo(int one, int other) {
            if (!has(one) || !has(other)) {
                return UNKNOWN;
            }
            if (one == other) {
                return OUTSIDE;
            }
            if (strands[one].house != strands[other].house) {
                return STATE;
            }
            Row front = strands[one].row;
            Row back = strands[other].row;
            if (front.size + back.size - front.overlapWith(back) > LONGEST) {
                return FULL;
            }
            front.addBehind(back);
            back.clear();
            return front.size;
        }
    }

    /** What the valley was before each act, in a ring, so that the first can be forgotten. */
    private static final class Acts {
        private final Valley[] before = new Valley[ACTS];
        private int first;
        private int size;

        Acts() {
            for (int i = 0; i < ACTS; i++) {
                before[i] = new Valley();
            }
        }

        void clear() {
            first = 0;
            size = 0;
        }

        void remember(Valley valley) {
            if (size == ACTS) {
                first = (first + 1) % ACTS;
                size--;
            }
            before[(first + size) % ACTS].setTo(valley);
            size++;
        }

        int takeBack(Valley valley) {
            if (size == 0) {
                return STATE;
            }
            size--;
            valley.setTo(before[(first + size) % ACTS]);
            return size;
        }
    }

    private static final class Slots {
        private final Valley[] kept = new Valley[SLOTS];
        /** Bits: which slots hold anything. */
        private int filled;

        Slots() {
            for (int i = 0; i < SLOTS; i++) {
                kept[i] = new Valley();
            }
        }

        void clear() {
            filled = 0;
        }

        int put(int slot, Valley valley) {
            if (slot < 0 || slot >= SLOTS) {
                return UNKNOWN;
            }
            kept[slot].setTo(valley);
            filled |= 1 << slot;
            return valley.year;
        }

        int bringBack(int slot, Valley valley) {
            if (slot < 0 || slot >= SLOTS) {
                return UNKNOWN;
            }
            if ((filled >> slot & 1) == 0) {
                return STATE;
            }
            valley.setTo(kept[slot]);
            return valley.year;
        }
    }

    /** Where an unknown strand lay, or did not. */
    private static final class Laid {
        private final int[] places = new int[LAID];
        private final boolean[] lay = new boolean[LAID];
        private int size;

        int add(int place, boolean lies) {
            if (size >= LAID) {
                return FULL;
            }
            places[size] = place;
            lay[size] = lies;
            size++;
            return size;
        }

        int clear() {
            int before = size;
            size = 0;
            return before;
        }

        boolean isSo(Row row, Row bed) {
            for (int i = 0; i < size; i++) {
                if (bed.bearsAt(places[i], row) != lay[i]) {
                    return false;
                }
            }
            return true;
        }
    }

    /** The text, and how it is read: by a state after each letter. */
    private static final class Text {
        private static final int WRONG = -1, START = 0, HOUSE_DUE = 1, KIND_DUE = 2, OPEN = 3;
        /** The state of a strand without a bend yet; each bend makes it one more. */
        private static final int NO_BEND = 4;

        private final int[] letters = new int[LETTERS];
        private int size;

        int add(int letter) {
            if (size >= LETTERS) {
                return FULL;
            }
            letters[size] = letter;
            size++;
            return size;
        }

        int clear() {
            int before = size;
            size = 0;
            return before;
        }

        int firstFault() {
            int state = START;
            int told = 0;
            for (int i = 0; i < size; i++) {
                state = stateAfter(state, letters[i], told);
                if (state == WRONG) {
                    return i;
                }
                if (state == HOUSE_DUE) {
                    told++;
                }
            }
            return state == OPEN || state > NO_BEND ? NONE : size;
        }

        private static int stateAfter(int state, int letter, int told) {
            if (state == START) {
                return letter == 'T' ? OPEN : WRONG;
            }
            if (state == HOUSE_DUE) {
                return isFigure(letter, HOUSES) ? KIND_DUE : WRONG;
            }
            if (state == KIND_DUE) {
                return isFigure(letter, KINDS) ? NO_BEND : WRONG;
            }
            if (state >= NO_BEND && state < NO_BEND + TOLD_BENDS && isBend(letter)) {
                return state + 1;
            }
            return letter == 'S' && state != NO_BEND && told < STRANDS ? HOUSE_DUE : WRONG;
        }

        private static boolean isFigure(int letter, int bound) {
            return letter >= '0' && letter < '0' + bound;
        }

        private static boolean isBend(int letter) {
            return letter >= 'a' && letter < 'a' + BENDS;
        }

        /** Makes the valley anew; the text has no fault. */
        void tellTo(Valley valley) {
            valley.clear();
            for (int i = 1; i < size; i++) {
                if (isBend(letters[i])) {
                    valley.bendLast(letters[i] - 'a' + 1);
                } else if (letters[i] == 'S' && i + 2 < size) {
                    valley.begin(letters[i + 1] - '0', letters[i + 2] - '0');
                }
            }
        }
    }
}
