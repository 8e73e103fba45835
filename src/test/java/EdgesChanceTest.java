/** Promises 25 to 29, shares, rests and chances: least and most, empty and full, and what is refused. */
public final class EdgesChanceTest {
    private static final int UNKNOWN = -1, OUTSIDE = -2;
    private static final long FACTOR = 6364136223846793005L, STEP = 1442695040888963407L;

    private EdgesChanceTest() {
    }

    public static void main(String[] args) {
        Edges.run(EdgesChanceTest.class);
    }

    /** A fraction is as due above and below, and asking for it changes nothing. */
    private static void fraction(Asked x, String call, long above, long below) {
        x.leaves(call + "true)", above).leaves(call + "false)", below);
    }

    private static void share(Asked x, String strand, long above, long below) {
        fraction(x, "share(" + strand + ", ", above, below);
    }

    private static void lost(Asked x, String tenths, long above, long below) {
        fraction(x, "lost(" + tenths + ", ", above, below);
    }

    // ---- 25 share

    @Edge(promise = 25, says = "SHARE. UNKNOWN.")
    static void shareOfNoStrand(Due due) {
        Asked x = Asked.rich(due);
        for (String strand : new String[] {"-1", "4", "MIN", "MAX"}) {
            share(x, strand, UNKNOWN, UNKNOWN);
        }
        share(Asked.told(due, "TS00a"), "1", UNKNOWN, UNKNOWN);
    }

    @Edge(promise = 25, says = "refusals of them are told likewise.")
    static void shareOfOneThatIsGone(Due due) {
        share(Asked.rich(due), "3", UNKNOWN, UNKNOWN);
    }

    @Edge(promise = 25, says = "FRACTIONS are told above (upper = true; below 0, if they are), below "
        + "(1 and more), in least terms")
    static void shareOfNothing(Due due) {
        Asked x = Asked.told(due, "TS00aS00b");
        share(x, "0", 0, 1);
        x.now("bed(12, 222222222222)");
        share(x, "0", 0, 1);
        share(x, "1", 12, 1);
    }

    @Edge(promise = 25, says = "if STRANDS that are there come one by one, in each order as likely")
    static void shareOfOneToFourWhoLieAlike(Due due) {
        String text = "T";
        for (int n = 1; n <= 4; n++) {
            text = text + "S00a";
            Asked x = Asked.told(due, text).now("bed(12, 111111111111)");
            share(x, "0", 12 / n, 1);
            x.now("bed(1, 1)");
            share(x, String.valueOf(n - 1), 1, n);
        }
    }

    @Edge(promise = 25, says = "below (1 and more), in least terms")
    static void shareInLeastTerms(Due due) {
        // Two places of four are 1/2; three are 3/4; four and more are no fraction.
        Asked x = Asked.told(due, "TS00aS00aS00aS00a");
        int[] above = {1, 1, 3, 1, 5, 3, 7, 2, 9, 5, 11, 3};
        int[] below = {4, 2, 4, 1, 4, 2, 4, 1, 4, 2, 4, 1};
        long row = 0;
        for (int n = 1; n <= 12; n++) {
            row = 10 * row + 1;
            x.now("bed(" + n + ", " + row + ")");
            x.is("share(2, true)", above[n - 1]).is("share(2, false)", below[n - 1]);
        }
    }

    @Edge(promise = 25, says = "by how many in the mean PLACES of THE BED that are COVERED are more "
        + "when it has come than they were: a FRACTION.")
    static void shareOfPlacesOfTwoThreeAndFour(Due due) {
        Asked x = Asked.told(due, "TS00abcS00cS00bcS00abc").now("bed(3, 123)");
        share(x, "0", 13, 12);
        share(x, "1", 1, 4);
        share(x, "2", 7, 12);
        share(x, "3", 13, 12);
    }

    @Edge(promise = 25, says = "SHARE of a STRAND: if STRANDS that are there come one by one")
    static void shareIsNotWithWhoIsGone(Due due) {
        Asked x = Asked.told(due, "TS00aS00aS00aS03a").now("bed(3, 111)");
        share(x, "3", 3, 4);
        x.is("winter()", 3);
        share(x, "3", 3, 1);
        share(x, "0", UNKNOWN, UNKNOWN);
    }

    // ---- 26 rests

    private static void rests(Asked x, String pair, long many, long first) {
        x.leaves("rests(" + pair + ", 0)", many).leaves("rests(" + pair + ", 1)", first);
    }

    @Edge(promise = 26, says = "UNKNOWN: both; OUTSIDE: both are one, what.")
    static void restsOfNoStrand(Due due) {
        Asked x = Asked.rich(due);
        for (String strand : new String[] {"-1", "3", "4", "MIN", "MAX"}) {
            rests(x, "1, " + strand, UNKNOWN, UNKNOWN);
            rests(x, strand + ", 1", UNKNOWN, UNKNOWN);
        }
        rests(Asked.told(due, "TS00a"), "0, 1", UNKNOWN, UNKNOWN);
    }

    @Edge(promise = 26, says = "UNKNOWN: both; OUTSIDE: both are one, what.")
    static void restsUnknownComesBeforeOutside(Due due) {
        Asked x = Asked.rich(due);
        rests(x, "3, 3", UNKNOWN, UNKNOWN);
        rests(x, "4, 4", UNKNOWN, UNKNOWN);
        x.leaves("rests(0, 3, 2)", UNKNOWN).leaves("rests(3, 0, -1)", UNKNOWN).leaves("rests(-1, -1, 9)", UNKNOWN);
    }

    @Edge(promise = 26, says = "OUTSIDE: both are one, what.")
    static void restsOfOneWithItself(Due due) {
        rests(Asked.rich(due), "0, 0", OUTSIDE, OUTSIDE);
        rests(Asked.rich(due), "2, 2", OUTSIDE, OUTSIDE);
    }

    @Edge(promise = 26, says = "RESTS: how many (what = 0), the first (1); NONE.")
    static void restsWhatMinusOneAndTwo(Due due) {
        Asked x = Asked.rich(due);
        x.leaves("rests(0, 1, -1)", OUTSIDE).leaves("rests(0, 1, 2)", OUTSIDE);
        x.leaves("rests(0, 1, MIN)", OUTSIDE).leaves("rests(0, 1, MAX)", OUTSIDE).leaves("rests(0, 0, 2)", OUTSIDE);
    }

    @Edge(promise = 26, says = "how many; the first (10 times the one and the other)")
    static void restsFromHouses00To33(Due due) {
        // Two alone lose nothing anywhere, so that both stay, for the 1 more.
        for (int one = 0; one < 4; one++) {
            for (int other = 0; other < 4; other++) {
                Asked x = Asked.told(due, "TS" + one + "0abS" + other + "2c");
                x.is("rests(0, 1, 0)", 1).is("rests(0, 1, 1)", 10 * one + other).is("rests(1, 0, 1)", 10 * other + one);
            }
        }
    }

    @Edge(promise = 26, says = "each has twice as many as BENDS that it has then, and 1 more, if it is where it was")
    static void restsTwiceABendIsMoreThanTheOneMore(Due due) {
        // The flood stays; the other one leaves it, though it was there, for any of three houses.
        rests(Asked.told(due, "TS23abS20cd"), "0, 1", 3, 20);
        rests(Asked.told(due, "TS23abS20cd"), "1, 0", 3, 2);
        rests(Asked.told(due, "TS23abS20c"), "0, 1", 3, 20);
        // It was elsewhere: it stays there.
        rests(Asked.told(due, "TS23abS30cd"), "0, 1", 1, 23);
    }

    @Edge(promise = 26, says = "pairs of HOUSES in which neither has more by another one alone")
    static void restsOfTwoInACrowd(Due due) {
        // Of three plain ones in one house one of two leaves, and the other one stays.
        rests(Asked.told(due, "TS20abcS20abcS20abcS12a"), "0, 1", 6, 2);
        // Four in one house: if both leave, each could come back alone to make it three, and would lose.
        rests(Asked.told(due, "TS00abS00abS00abS00ab"), "0, 1", 9, 11);
    }

    @Edge(promise = 26, says = "each is hung in a HOUSE (0 to 3) now, then there is A WINTER")
    static void restsOfTwoFloods(Due due) {
        // Each goes where the other is not: one stays, and the other one has three houses.
        rests(Asked.told(due, "TS13abS13cd"), "0, 1", 6, 1);
    }

    @Edge(promise = 26, says = "neither has more by another one alone: how many; the first (10 times "
        + "the one and the other); NONE.")
    static void restsAreNeverNone(Due due) {
        // No valley is without a rest (NOTES.md says how that was found), so NONE itself can not be asked for here.
        for (int kinds = 0; kinds < 256; kinds++) {
            StringBuilder text = new StringBuilder("T");
            for (int strand = 0; strand < 4; strand++) {
                text.append("S").append(strand / 2).append(kinds >> 2 * strand & 3);
                text.append(strand % 2 == 0 ? "ab" : "c");
            }
            Asked x = Asked.told(due, text.toString());
            due.is("rests(0, 2, 0) of " + text + " is more than 0", x.ask("rests(0, 2, 0)") > 0 ? 1 : 0, 1);
            due.is("rests(0, 2, 1) of " + text + " is a pair", x.ask("rests(0, 2, 1)") >= 0 ? 1 : 0, 1);
        }
    }

    @Edge(promise = 26, says = "RESTS of two STRANDS: each is hung in a HOUSE (0 to 3) now")
    static void restsChangesNothing(Due due) {
        Asked x = Asked.rich(due);
        rests(x, "1, 2", 3, 1);
        x.is("count(4)", 1).is("strand(1, 0)", 1).is("count(7)", 4);
    }

    // ---- 27 lost

    @Edge(promise = 27, says = "LOST. OUTSIDE: x.")
    static void lostByMinusOneAndByEleven(Due due) {
        Asked x = Asked.rich(due);
        for (String tenths : new String[] {"-1", "11", "MIN", "MAX"}) {
            lost(x, tenths, OUTSIDE, OUTSIDE);
        }
        lost(new Asked(due), "11", OUTSIDE, OUTSIDE);
    }

    @Edge(promise = 27, says = "LOST: each STRAND is GONE by x tenths (0 to 10), by itself")
    static void lostByNoneAndByTen(Due due) {
        Asked x = Asked.told(due, "TS00aS00b").now("bed(2, 12)");
        lost(x, "0", 1, 1);
        lost(x, "10", 0, 1);
        x.now("bed(3, 123)");
        lost(x, "0", 0, 1);
        lost(x, "10", 0, 1);
    }

    @Edge(promise = 27, says = "that all of THE BED is COVERED yet: a FRACTION.")
    static void lostInNoBed(Due due) {
        Asked x = Asked.told(due, "TS00aS00b");
        lost(x, "0", 1, 1);
        lost(x, "5", 1, 1);
        lost(x, "10", 1, 1);
    }

    @Edge(promise = 27, says = "that all of THE BED is COVERED yet: a FRACTION.")
    static void lostOfNone(Due due) {
        Asked x = new Asked(due);
        lost(x, "0", 1, 1);
        lost(x, "10", 1, 1);
        x.now("bed(1, 1)");
        lost(x, "0", 0, 1);
        lost(x, "10", 0, 1);
    }

    @Edge(promise = 27, says = "in least terms")
    static void lostOfOneByEachTenth(Due due) {
        Asked x = Asked.told(due, "TS00a").now("bed(12, 111111111111)");
        int[][] want = {{1, 1}, {9, 10}, {4, 5}, {7, 10}, {3, 5}, {1, 2}, {2, 5}, {3, 10}, {1, 5}, {1, 10}, {0, 1}};
        for (int tenths = 0; tenths <= 10; tenths++) {
            x.is("lost(" + tenths + ", true)", want[tenths][0]).is("lost(" + tenths + ", false)", want[tenths][1]);
        }
    }

    @Edge(promise = 27, says = "each STRAND is GONE by x tenths (0 to 10), by itself")
    static void lostOfFourThatAreAllNeededOrAllAlike(Due due) {
        Asked all = Asked.told(due, "TS00aS10bS20cS30d").now("bed(4, 1234)");
        lost(all, "1", 6561, 10000);
        lost(all, "9", 1, 10000);
        lost(all, "5", 1, 16);
        Asked alike = Asked.told(due, "TS00aS10aS20aS30a").now("bed(1, 1)");
        lost(alike, "1", 9999, 10000);
        lost(alike, "9", 3439, 10000);
        lost(alike, "5", 15, 16);
    }

    @Edge(promise = 27, says = "on which a STRAND lies, wherever any lies.")
    static void lostIsOfAllPlacesWhereOneLies(Due due) {
        // One a, wherever it lies, covers both places; who lies nowhere is not needed.
        Asked x = Asked.told(due, "TS00aS00bS00cS00d").now("bed(2, 11)");
        lost(x, "3", 7, 10);
    }

    @Edge(promise = 27, says = "there is no such STRAND (a GONE one is none)")
    static void lostOfWhoIsThere(Due due) {
        Asked x = Asked.told(due, "TS00aS00aS00aS03a").now("bed(1, 1)");
        lost(x, "5", 15, 16);
        x.is("winter()", 3);
        lost(x, "5", 1, 2);
    }

    // ---- 28 seed

    @Edge(promise = 28, says = "THE SEED is v: what it was.")
    static void seedOfTheLeastAndTheMost(Due due) {
        Asked x = new Asked(due);
        x.is("seed(MIN)", 0).is("seed(MAX)", Long.MIN_VALUE).is("seed(-1)", Long.MAX_VALUE);
        x.is("seed(0)", -1).is("seed(0)", 0);
    }

    @Edge(promise = 28, says = "THE SEED is v: what it was.")
    static void seedIsAllThatItChanges(Due due) {
        Asked.rich(due).leavesAllBy("seed(5)", "seed(77)");
        new Asked(due).leavesAllBy("seed(MIN)", "seed(0)");
    }

    @Edge(promise = 28, says = "THE SEED is v: what it was.")
    static void seedStaysByAllElse(Due due) {
        Asked x = Asked.rich(due);
        x.now("winter()", "undo()", "again(0)", "valley()", "unlay()", "bed(0, 0)", "wipe()", "lost(5, true)");
        x.is("seed(1)", 77).is("seed(1)", 1);
    }

    // ---- 29 years

    /** What x was if it is next now. */
    private static long before(long next) {
        long inverse = FACTOR;
        for (int i = 0; i < 6; i++) {
            inverse *= 2 - FACTOR * inverse;
        }
        return (next - STEP) * inverse;
    }

    /** A seed by which, one year after the other, these are left by 32. */
    private static long seedFor(int... left) {
        // The lower 33 bits are free in the first year, and they reach the upper ones in the next.
        for (long lower = 0; lower < 1L << 26; lower++) {
            long next = (long) left[0] << 33 | lower << 7;
            int fits = 1;
            for (long x = next; fits < left.length; fits++) {
                x = x * FACTOR + STEP;
                if ((x >>> 33) % 32 != left[fits]) {
                    break;
                }
            }
            if (fits == left.length) {
                return before(next);
            }
        }
        throw new IllegalStateException("no seed leaves these");
    }

    private static void years(Asked x, long want, int... left) {
        x.now("seed(" + seedFor(left) + ")").is("years(" + left.length + ")", want);
    }

    /** Three plain ones in house 0, each going on into the next, and one alone in house 1. */
    private static Asked fourOfTwo(Due due) {
        return Asked.told(due, "TS00abS00bcS00cdS10da");
    }

    @Edge(promise = 29, says = "YEARS. OUTSIDE: m.")
    static void yearsOfNoneAndOf31(Due due) {
        Asked x = Asked.rich(due);
        x.leaves("years(0)", OUTSIDE).leaves("years(31)", OUTSIDE).leaves("years(-1)", OUTSIDE);
        x.leaves("years(MIN)", OUTSIDE).leaves("years(MAX)", OUTSIDE).is("seed(0)", 77);
    }

    @Edge(promise = 29, says = "YEARS by THE SEED: m times (1 to 30)")
    static void yearsFromOneTo30(Due due) {
        // One alone keeps its bend whatever comes.
        Asked x = Asked.told(due, "TS00a");
        for (int m = 1; m <= 30; m++) {
            x.is("years(" + m + ")", m);
        }
        new Asked(due).is("years(1)", 0).is("years(30)", 0);
    }

    @Edge(promise = 29, says = "x times 6364136223846793005 and 1442695040888963407 (64 bits, wrapping)")
    static void yearsMoveTheSeedAndItWraps(Due due) {
        Asked x = new Asked(due);
        for (long start : new long[] {0, 1, -1, Long.MIN_VALUE, Long.MAX_VALUE}) {
            long seed = start;
            for (int i = 0; i < 30; i++) {
                seed = seed * FACTOR + STEP;
            }
            x.now("seed(" + start + ")").is("years(1)", 0).is("seed(" + start + ")", start * FACTOR + STEP);
            x.is("years(30)", 0).is("seed(0)", seed);
        }
        x.is("years(1)", 0).is("seed(0)", 1442695040888963407L);
    }

    @Edge(promise = 29, says = "its upper 31 bits by 32, what is left")
    static void yearsByTheUpperBitsAlone(Due due) {
        // 22 joins two that are not in one house, 23 is a winter; the bits above and below do not count.
        Asked x = fourOfTwo(due);
        for (int left : new int[] {21, 22, 23, 31}) {
            long want = left == 21 ? 7 : left == 22 ? 8 : 5;
            long bits = (long) left << 33;
            x.now("seed(" + before(bits) + ")").is("years(1)", want).is("seed(0)", bits);
            x.now("seed(" + before(bits | (1L << 33) - 1) + ")").is("years(1)", want);
            x.now("seed(" + before(bits | -1L << 38) + ")").is("years(1)", want);
            x.now("seed(" + before(bits | Long.MIN_VALUE) + ")").is("years(1)", want);
        }
    }

    @Edge(promise = 29, says = "0 to 15 that by 4 (cut) is a STRAND that is HUNG in the HOUSE that is left by 4")
    static void yearsThatHang(Due due) {
        // And then a winter: of three in house 0 each loses one, of two none does, of four each.
        int[] want = {13, 16, 16, 16, 13, 16, 16, 16, 13, 16, 16, 16, 12, 13, 13, 13};
        Asked x = fourOfTwo(due);
        for (int left = 0; left < 16; left++) {
            years(x, want[left], left, 23);
        }
        // The last that hangs, 15, takes strand 3 out of a crowd to house 3; 12 leaves it there, as it is there.
        Asked crowd = Asked.told(due, "TS00abS00bcS10cdS00da");
        years(crowd, 8 + 8, 15, 23);
        years(crowd, 8 + 8, 13, 23);
        years(crowd, 8 + 5, 12, 23);
        years(crowd, 8 + 5, 16, 23);
    }

    @Edge(promise = 29, says = "16 to 19 that less 16 STRAND is TURNED")
    static void yearsThatTurn(Due due) {
        Asked x = fourOfTwo(due);
        // 15 hangs, and the two go on into one another yet; turned, they do not.
        years(x, 15, 15, 20);
        years(x, 16, 16, 20);
        years(x, 16, 17, 20);
        years(x, 15, 18, 20);
        years(x, 16, 18, 21);
        years(x, 8 + 8 + 7, 19, 12, 20);
        years(x, 8 + 7, 12, 22);
        years(x, 8 + 8 + 8, 12, 19, 22);
    }

    @Edge(promise = 29, says = "20 to 22 that less 20 STRAND is JOINED with the one of 1 more, each if it can be")
    static void yearsThatJoin(Due due) {
        Asked x = fourOfTwo(due);
        years(x, 8, 19);
        years(x, 7, 20);
        years(x, 7, 21);
        years(x, 8, 22);
        years(x, 7 + 7, 20, 20);
        years(x, 7 + 7, 20, 21);
        years(x, 7 + 6, 21, 20);
    }

    @Edge(promise = 29, says = "each if it can be")
    static void yearsThatCanNotBe(Due due) {
        // 18 bends in two strands: joined they were more than 12.
        Asked full = Asked.told(due, "TS00abcdabS00cdcdcdS00ababab").now("join(1, 2)");
        years(full, 18, 20);
        // There is one strand alone: the others are not hung, turned or joined.
        Asked one = Asked.told(due, "TS00ab");
        for (int left = 4; left < 23; left++) {
            years(one, 2, left);
        }
        // Who is gone is not hung: house 0 has two, and the winter takes nothing.
        years(fourOfTwo(due), 7 + 7 + 7, 20, 4, 23);
    }

    @Edge(promise = 29, says = "23 and more A WINTER")
    static void yearsOfWinter(Due due) {
        Asked x = fourOfTwo(due);
        years(x, 8, 22);
        for (int left = 23; left < 32; left++) {
            years(x, 5, left);
        }
        // The first of the three is gone in the second winter, and the two are no crowd then.
        years(x, 5 + 4, 23, 31);
        years(x, 5 + 4 + 4, 23, 31, 24);
    }

    @Edge(promise = 29, says = "BENDS of all STRANDS, each time, together.")
    static void yearsOf24BendsThirtyTimes(Due due) {
        Asked x = Asked.told(due, "TS02aaaaaaS12bbbbbbS22ccccccS32dddddd");
        // No two are alike and all are corded: what is joined has all bends of both, up to 12.
        x.is("years(30)", 720);
    }

    @Edge(promise = 29, says = "(Nothing changes but THE SEED.)")
    static void yearsChangeTheSeedAlone(Due due) {
        Asked.rich(due).leavesAllBy("years(30)", "seed(77)").leavesAllBy("years(1)", "years(7)", "seed(77)");
    }

    @Edge(promise = 29, says = "YEARS by THE SEED: m times (1 to 30)")
    static void yearsBeginFromWhatIsAndGoOnByTheSeed(Due due) {
        // Two calls of one year are not two years: the valley is as it was before the second.
        Asked x = fourOfTwo(due).now("seed(" + seedFor(20, 21) + ")");
        x.is("years(1)", 7).is("years(1)", 7).now("seed(" + seedFor(20, 21) + ")").is("years(2)", 14);
        x.now("seed(" + seedFor(21, 20) + ")").is("years(1)", 7).is("years(1)", 7);
        years(x, 13, 21, 20);
    }
}
