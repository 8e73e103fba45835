/** Promises 22 to 24, what is laid: least and most, empty and full, and what is refused. */
public final class EdgesLaidTest {
    private static final int OUTSIDE = -2, FULL = -4, NONE = -9;

    private EdgesLaidTest() {
    }

    public static void main(String[] args) {
        Edges.run(EdgesLaidTest.class);
    }

    // ---- 22 lay

    @Edge(promise = 22, says = "OUTSIDE: place (0 to 11), lay (0, 1); FULL: 6.")
    static void layAtMinusOneAndAtTwelve(Due due) {
        Asked x = Asked.rich(due);
        x.leaves("lay(-1, 0)", OUTSIDE).leaves("lay(12, 0)", OUTSIDE).leaves("lay(-1, 1)", OUTSIDE);
        x.leaves("lay(12, 1)", OUTSIDE).leaves("lay(MIN, 0)", OUTSIDE).leaves("lay(MAX, 1)", OUTSIDE);
        x.is("lay(0, 1)", 3).is("lay(11, 0)", 4);
    }

    @Edge(promise = 22, says = "lay (0, 1)")
    static void layMinusOneAndTwo(Due due) {
        Asked x = Asked.rich(due);
        x.leaves("lay(0, -1)", OUTSIDE).leaves("lay(0, 2)", OUTSIDE).leaves("lay(0, MIN)", OUTSIDE);
        x.leaves("lay(0, MAX)", OUTSIDE).leaves("lay(12, 2)", OUTSIDE).is("lay(0, 0)", 3).is("lay(0, 1)", 4);
    }

    @Edge(promise = 22, says = "place (0 to 11)")
    static void layAtEachPlace(Due due) {
        Asked x = new Asked(due).now("bed(12, 123412341234)");
        for (int place = 0; place < 12; place++) {
            x.is("lay(" + place + ", 1)", 1).is("which(1)", 1 + place % 4).is("unlay()", 1);
        }
    }

    @Edge(promise = 22, says = "FULL: 6.")
    static void layTheSixthAndTheSeventh(Due due) {
        Asked x = new Asked(due).now("bed(12, 111111111111)");
        for (int n = 1; n <= 6; n++) {
            x.is("lay(" + n + ", 1)", n).is("count(8)", n);
        }
        x.leaves("lay(0, 0)", FULL).leaves("lay(11, 1)", FULL).is("count(8)", 6).is("which(0)", 3);
    }

    @Edge(promise = 22, says = "OUTSIDE: place (0 to 11), lay (0, 1); FULL: 6.")
    static void layOutsideComesBeforeFull(Due due) {
        Asked x = new Asked(due).times(6, "lay(0, 0)");
        x.leaves("lay(12, 0)", OUTSIDE).leaves("lay(-1, 0)", OUTSIDE).leaves("lay(0, 2)", OUTSIDE);
        x.leaves("lay(0, -1)", OUTSIDE).leaves("lay(0, 0)", FULL);
    }

    @Edge(promise = 22, says = "LAID: how many there are.")
    static void layOfTheSameTwiceIsTwo(Due due) {
        Asked x = new Asked(due).now("bed(2, 12)");
        x.is("lay(0, 1)", 1).is("lay(0, 1)", 2).is("which(0)", 2).is("lay(0, 0)", 3).is("which(0)", 0);
    }

    @Edge(promise = 22, says = "at a place of THE BED as it is now (0 to 11)")
    static void layBeyondTheBedIsTaken(Due due) {
        new Asked(due).is("lay(11, 1)", 1).is("lay(0, 0)", 2).is("count(8)", 2).is("which(0)", 0);
        Asked x = new Asked(due).now("bed(11, 11111111111)");
        x.is("lay(11, 0)", 1).is("which(0)", 84).is("lay(11, 1)", 2).is("which(0)", 0);
    }

    @Edge(promise = 22, says = "ACTS (WINTERS, HUNG, TURNED, SNIPPED, JOINED) are a row")
    static void layIsNoAct(Due due) {
        Asked x = Asked.rich(due);
        x.is("lay(1, 0)", 3).is("count(7)", 4).is("undo()", 3).is("count(8)", 3).is("again(0)", 0).is("count(8)", 3);
    }

    // ---- 23 unlay

    @Edge(promise = 23, says = "Nothing is LAID: how much there was.")
    static void unlayOfNothing(Due due) {
        new Asked(due).leaves("unlay()", 0).is("unlay()", 0).is("count(8)", 0);
    }

    @Edge(promise = 23, says = "Nothing is LAID: how much there was.")
    static void unlayOfSixAndLayAgain(Due due) {
        Asked x = new Asked(due).now("bed(1, 1)").times(6, "lay(0, 0)");
        x.is("lay(0, 0)", FULL).is("unlay()", 6).is("count(8)", 0).is("which(0)", 84).is("unlay()", 0);
        for (int n = 1; n <= 6; n++) {
            x.is("lay(0, 1)", n);
        }
        x.is("lay(0, 1)", FULL).is("which(0)", 1).is("which(1)", 1);
    }

    @Edge(promise = 23, says = "Nothing is LAID: how much there was.")
    static void unlayLeavesAllElse(Due due) {
        Asked x = Asked.rich(due);
        x.is("unlay()", 2).is("count(0)", 10).is("count(2)", 7).is("count(5)", 12).is("count(7)", 4).is("count(4)", 1);
        x.is("seed(0)", 77).is("again(0)", 0).is("which(0)", 84);
    }

    // ---- 24 which

    @Edge(promise = 24, says = "WHICH: how many (what = 0), the first (1); NONE. OUTSIDE.")
    static void whichWhatMinusOneAndTwo(Due due) {
        Asked x = Asked.rich(due);
        x.leaves("which(-1)", OUTSIDE).leaves("which(2)", OUTSIDE).leaves("which(MIN)", OUTSIDE);
        x.leaves("which(MAX)", OUTSIDE).leaves("which(0)", 3).leaves("which(1)", 4);
    }

    @Edge(promise = 24, says = "WHICH: rows of BENDS by which all that is LAID is so: how many (84 there are)")
    static void whichWhereNothingIsLaid(Due due) {
        new Asked(due).leaves("which(0)", 84).leaves("which(1)", 1);
        new Asked(due).now("bed(12, 444444444444)").is("which(0)", 84).is("which(1)", 1);
    }

    @Edge(promise = 24, says = "how many (what = 0), the first (1); NONE.")
    static void whichOfWhatCanNotBe(Due due) {
        Asked x = new Asked(due).now("bed(2, 12)", "lay(0, 1)", "lay(0, 0)");
        x.leaves("which(0)", 0).leaves("which(1)", NONE);
        Asked none = new Asked(due).now("lay(0, 1)");
        none.is("which(0)", 0).is("which(1)", NONE).now("bed(1, 2)").is("which(0)", 1).is("which(1)", 2);
    }

    @Edge(promise = 24, says = "LAID: that an unknown STRAND of 1 to 3 BENDS lay (1)")
    static void whichOfOneToThreeBends(Due due) {
        Asked x = new Asked(due).now("bed(4, 4321)", "lay(0, 1)");
        // 4, 43 and 432; 4321 is too long.
        x.is("which(0)", 3).is("which(1)", 4);
        x.now("bed(6, 432432)", "lay(3, 1)").is("which(0)", 3).now("bed(5, 43243)").is("which(0)", 2);
        x.now("bed(4, 4324)").is("which(0)", 1).now("bed(3, 432)").is("which(0)", 0);
    }

    @Edge(promise = 24, says = "all within it, or not (0)")
    static void whichAtTheEndOfTheBed(Due due) {
        Asked x = new Asked(due).now("bed(12, 111111111234)", "lay(9, 1)");
        x.is("which(0)", 3).is("which(1)", 2).now("unlay()", "lay(10, 1)").is("which(0)", 2).is("which(1)", 3);
        x.now("unlay()", "lay(11, 1)").is("which(0)", 1).is("which(1)", 4);
        x.now("unlay()", "lay(11, 0)").is("which(0)", 83).is("which(1)", 1);
        x.now("bed(11, 11111111123)").is("which(0)", 84);
    }

    @Edge(promise = 24, says = "lay (1) at a place of THE BED as it is now (0 to 11), all within it, or not (0)")
    static void whichOfWhatDidNotLie(Due due) {
        Asked x = new Asked(due).now("bed(3, 123)", "lay(0, 0)");
        x.is("which(0)", 81).is("which(1)", 2).now("lay(1, 0)").is("which(0)", 79).is("which(1)", 3);
        x.now("lay(2, 0)").is("which(0)", 78).is("which(1)", 4).now("lay(3, 0)").is("which(0)", 78);
    }

    @Edge(promise = 24, says = "the first (figures; the least number); NONE.")
    static void whichFirstIsTheLeastNumber(Due due) {
        // 3, 34 and 344 lie at 0; 3 and 34 lie at 3 too, and 3 alone at 6.
        Asked x = new Asked(due).now("bed(9, 344341312)", "lay(0, 1)", "lay(3, 0)");
        x.is("which(0)", 1).is("which(1)", 344).now("unlay()", "lay(0, 1)", "lay(5, 0)").is("which(0)", 3);
        x.now("unlay()", "lay(0, 1)", "lay(6, 0)").is("which(0)", 2).is("which(1)", 34);
    }

    @Edge(promise = 24, says = "THE BED as it is now")
    static void whichIsOfTheBedThatThereIs(Due due) {
        Asked x = new Asked(due).now("bed(3, 123)", "lay(0, 1)").is("which(1)", 1).now("bed(3, 412)");
        x.is("which(1)", 4).now("bed(0, 0)").is("which(1)", NONE);
    }

    @Edge(promise = 24, says = "rows of BENDS by which all that is LAID is so")
    static void whichOfAllSix(Due due) {
        Asked x = new Asked(due).now("bed(12, 121212121213)");
        x.now("lay(0, 1)", "lay(2, 1)", "lay(4, 1)", "lay(6, 1)", "lay(8, 1)").is("which(0)", 3);
        x.is("lay(10, 0)", 6).is("which(0)", 2).is("which(1)", 12);
    }
}
