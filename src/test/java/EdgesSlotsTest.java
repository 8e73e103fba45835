/** Promises 30 to 32, slots and counts: least and most, empty and full, and what is refused. */
public final class EdgesSlotsTest {
    private static final int UNKNOWN = -1, OUTSIDE = -2, STATE = -3;

    private EdgesSlotsTest() {
    }

    public static void main(String[] args) {
        Edges.run(EdgesSlotsTest.class);
    }

    // ---- 30 keep

    @Edge(promise = 30, says = "They are kept: THE YEAR. UNKNOWN.")
    static void keepInNoSlot(Due due) {
        Asked x = Asked.rich(due);
        x.leaves("keep(-1)", UNKNOWN).leaves("keep(2)", UNKNOWN).leaves("keep(3)", UNKNOWN);
        x.leaves("keep(MIN)", UNKNOWN).leaves("keep(MAX)", UNKNOWN);
    }

    @Edge(promise = 30, says = "SLOTS 0 to 1 keep BENDS, HOUSES, who is GONE, THE YEAR")
    static void keepInBothSlots(Due due) {
        Asked x = Asked.told(due, "TS00abS00bcS00c").now("keep(0)", "join(0, 1)", "hang(2, 3)", "winter()");
        x.is("keep(1)", 1).is("again(0)", 0).is("bends(0)", 12).is("bends(1)", 23).is("strand(2, 0)", 0);
        x.is("count(4)", 0).is("again(1)", 1).is("bends(0)", 123).is("bends(1)", UNKNOWN).is("strand(2, 0)", 3);
        x.is("count(4)", 1);
    }

    @Edge(promise = 30, says = "They are kept: THE YEAR.")
    static void keepOfNothing(Due due) {
        new Asked(due).is("keep(0)", 0).is("keep(1)", 0).is("winter()", 0).is("again(1)", 0).is("count(4)", 0);
        Asked.told(due, "T").is("winter()", 0).is("keep(1)", 1).is("again(0)", STATE).is("again(1)", 1);
    }

    @Edge(promise = 30, says = "They are kept: THE YEAR.")
    static void keepOverWhatWasKept(Due due) {
        Asked x = Asked.told(due, "TS00abc").now("keep(0)", "snip(0)", "winter()").is("keep(0)", 1);
        x.now("snip(0)", "winter()").is("again(0)", 1).is("bends(0)", 12).is("again(1)", STATE);
    }

    @Edge(promise = 30, says = "They are kept: THE YEAR.")
    static void keepLeavesWhatIs(Due due) {
        Asked x = Asked.rich(due);
        x.is("keep(1)", 1).is("count(7)", 4).is("bends(1)", 412).is("count(2)", 7).is("count(8)", 2).is("undo()", 3);
    }

    @Edge(promise = 30, says = "They are kept: THE YEAR.")
    static void whatIsKeptStaysAsItWas(Due due) {
        Asked x = Asked.told(due, "TS00abcS10d").now("turn(0)", "keep(1)");
        x.now("undo()", "hang(0, 1)", "join(0, 1)", "winter()", "years(30)", "judge(1, 0)");
        x.is("again(1)", 0).is("bends(0)", 321).is("bends(1)", 4).is("strand(0, 0)", 0);
    }

    // ---- 31 again

    @Edge(promise = 31, says = "They are as they were kept: THE YEAR. UNKNOWN; STATE: none were kept.")
    static void againOfNoSlot(Due due) {
        Asked x = Asked.rich(due);
        x.leaves("again(-1)", UNKNOWN).leaves("again(2)", UNKNOWN).leaves("again(3)", UNKNOWN);
        x.leaves("again(MIN)", UNKNOWN).leaves("again(MAX)", UNKNOWN);
        new Asked(due).is("again(2)", UNKNOWN).is("again(-1)", UNKNOWN);
    }

    @Edge(promise = 31, says = "STATE: none were kept.")
    static void againOfAnEmptySlot(Due due) {
        Asked.rich(due).leaves("again(1)", STATE).is("count(7)", 4);
        new Asked(due).leaves("again(0)", STATE).leaves("again(1)", STATE);
        Asked x = Asked.told(due, "TS00ab").now("keep(1)", "turn(0)").leaves("again(0)", STATE);
        x.is("bends(0)", 21).is("again(1)", 0).is("bends(0)", 12);
    }

    @Edge(promise = 31, says = "STATE: none were kept.")
    static void againOfARefusedKeep(Due due) {
        Asked x = Asked.told(due, "TS00ab").now("keep(2)", "keep(-1)");
        x.leaves("again(0)", STATE).leaves("again(1)", STATE);
    }

    @Edge(promise = 31, says = "They are as they were kept: THE YEAR.")
    static void againTwice(Due due) {
        Asked x = Asked.rich(due).now("winter()", "snip(0)");
        x.is("again(0)", 0).is("bends(1)", 3412).now("winter()", "turn(1)").is("again(0)", 0).is("bends(1)", 3412);
        x.is("count(4)", 0).is("bends(0)", 214321).is("again(0)", 0);
    }

    @Edge(promise = 31, says = "(THE ROW of ACTS is empty when one goes on)")
    static void againEmptiesTheRowOfActs(Due due) {
        Asked x = Asked.rich(due);
        x.is("count(7)", 4).is("again(0)", 0).is("count(7)", 0).is("undo()", STATE).is("turn(0)", 1).is("undo()", 0);
        Asked full = Asked.told(due, "TS00ab").now("keep(0)").times(20, "winter()");
        full.is("again(0)", 0).is("count(7)", 0).times(14, "turn(0)").is("count(7)", 14).is("turn(0)", 2);
        full.is("count(7)", 14);
    }

    @Edge(promise = 31, says = "who is GONE")
    static void againWhoWasGoneIsGone(Due due) {
        Asked x = Asked.told(due, "TS00aS00bS00cS03d").now("keep(1)", "winter()", "keep(0)");
        x.is("count(2)", 8).is("again(1)", 0).is("count(2)", 15).is("count(3)", 4).is("again(0)", 1).is("count(2)", 8);
    }

    @Edge(promise = 31, says = "SLOTS 0 to 1 keep BENDS, HOUSES, who is GONE, THE YEAR")
    static void againLeavesBedLaidSeedAndText(Due due) {
        Asked x = Asked.rich(due).now("bed(2, 41)", "lay(1, 0)", "seed(9)", "write(97)");
        x.is("again(0)", 0).is("count(0)", 11).is("count(5)", 2).is("count(8)", 3).is("seed(0)", 9);
    }

    // ---- 32 count

    @Edge(promise = 32, says = "8 LAID. OUTSIDE.")
    static void countMinusOneAndNine(Due due) {
        Asked x = Asked.rich(due);
        x.leaves("count(-1)", OUTSIDE).leaves("count(9)", OUTSIDE).leaves("count(MIN)", OUTSIDE);
        x.leaves("count(MAX)", OUTSIDE).leaves("count(0)", 10).leaves("count(8)", 2);
    }

    @Edge(promise = 32, says = "0 letters of THE TEXT, 1 STRANDS that were told")
    static void countLettersAndWhoWasTold(Due due) {
        Asked x = Asked.told(due, "TS00aS00bS00cS03d");
        x.is("count(0)", 17).is("count(1)", 4).is("winter()", 3).is("count(1)", 4).times(31, "write(0)");
        x.is("count(0)", 48).is("write(0)", -4).is("count(0)", 48).is("wipe()", 48).is("count(0)", 0).is("count(1)", 4);
    }

    @Edge(promise = 32, says = "2 who is there (bits), 3 BENDS of all")
    static void countWhoIsThereFromNoneToAll(Due due) {
        Asked x = Asked.told(due, "TS00aS00bS00cS03d").is("count(2)", 15).is("count(3)", 4);
        x.is("winter()", 3).is("count(2)", 8).is("count(3)", 1);
        Asked.told(due, "T").is("count(2)", 0).is("count(3)", 0);
        Asked.told(due, "TS00abcdabS00abcdabS00abcdabS00abcdab").is("count(2)", 15).is("count(3)", 24);
    }

    @Edge(promise = 32, says = "4 THE YEAR, 5 BENDS of THE BED")
    static void countYearsAndTheBed(Due due) {
        Asked x = new Asked(due).is("count(4)", 0).times(30, "winter()").is("count(4)", 30).is("undo()", 13);
        x.is("count(4)", 29).is("count(5)", 0).now("bed(12, 111111111111)").is("count(5)", 12);
    }

    @Edge(promise = 32, says = "6 HOUSES that have any (bits)")
    static void countHousesFromNoneToAll(Due due) {
        Asked x = Asked.told(due, "TS00aS10aS20aS30a").is("count(6)", 15);
        x.now("hang(0, 1)").is("count(6)", 14).now("join(1, 0)").is("count(6)", 14);
        x.now("hang(1, 3)").is("count(6)", 12).now("hang(2, 3)").is("count(6)", 8);
        x.now("join(3, 1)", "join(3, 2)").is("count(6)", 8).is("count(2)", 8);
        Asked.told(due, "T").is("count(6)", 0);
    }

    @Edge(promise = 32, says = "6 HOUSES that have any (bits)")
    static void countNoHouseOfWhoIsGone(Due due) {
        Asked x = Asked.told(due, "TS00abS10bS21c").now("hang(1, 0)", "join(0, 1)");
        x.is("count(6)", 5).now("hang(0, 3)").is("count(6)", 12).is("undo()", 2).is("undo()", 1).is("count(6)", 5);
        x.is("undo()", 0).is("count(6)", 7);
    }

    @Edge(promise = 32, says = "7 ACTS in the row, 8 LAID.")
    static void countActsAndLaidFromNoneToFull(Due due) {
        Asked x = Asked.told(due, "TS00ab");
        for (int n = 1; n <= 16; n++) {
            x.is("count(7)", Math.min(n - 1, 14)).now("turn(0)").is("count(7)", Math.min(n, 14));
        }
        for (int n = 1; n <= 7; n++) {
            x.is("count(8)", n - 1).now("lay(0, 1)").is("count(8)", Math.min(n, 6));
        }
    }
}
