/** Promises 9 to 14, the acts: least and most, empty and full, and what is refused. */
public final class EdgesActsTest {
    private static final int UNKNOWN = -1, OUTSIDE = -2, STATE = -3, FULL = -4;

    private EdgesActsTest() {
    }

    public static void main(String[] args) {
        Edges.run(EdgesActsTest.class);
    }

    /** One winter of what is told: how many are gone by it, and the bends of each then (-1: gone). */
    private static Asked winterOf(Due due, String text, int gone, long... bends) {
        Asked x = Asked.told(due, text);
        x.is("winter()", gone);
        for (int strand = 0; strand < bends.length; strand++) {
            x.is("bends(" + strand + ")", bends[strand]);
        }
        return x;
    }

    // ---- 9 winter

    @Edge(promise = 9, says = "PLAIN: if three STRANDS or more are in its HOUSE")
    static void oneAndTwoAreNoCrowd(Due due) {
        winterOf(due, "TS00ab", 0, 12);
        winterOf(due, "TS00abS00cd", 0, 12, 34);
        winterOf(due, "TS00abS00cdS10daS10bc", 0, 12, 34, 41, 23);
    }

    @Edge(promise = 9, says = "PLAIN: if three STRANDS or more are in its HOUSE")
    static void threeAndFourAreACrowd(Due due) {
        winterOf(due, "TS00abS00cdS00da", 0, 1, 3, 4);
        winterOf(due, "TS30abS30cdS30daS30bc", 0, 1, 3, 4, 2);
    }

    @Edge(promise = 9, says = "are in its HOUSE (now, itself as well), it loses its last BEND")
    static void threeInAnotherHouseAreNoCrowdOfIts(Due due) {
        winterOf(due, "TS00abS10cdS10daS10bc", 0, 12, 3, 4, 2);
        winterOf(due, "TS00abS00cdS10daS20bc", 0, 12, 34, 41, 23);
    }

    @Edge(promise = 9, says = "(now, itself as well)")
    static void ofEachKindItCounts(Due due) {
        winterOf(due, "TS00abS02cdS02da", 0, 1, 34, 41);
        winterOf(due, "TS00abS01cdaS02da", 0, 1, 4, 41);
        winterOf(due, "TS00abcS02cdS03da", 0, 2, 4, 41);
    }

    @Edge(promise = 9, says = "(now, itself as well)")
    static void whoIsGoneInThisWinterCountsNoMore(Due due) {
        winterOf(due, "TS20aS20bcS20cd", 1, UNKNOWN, 23, 34);
        // Of four the first is gone, the second is of three and gone, and two are left.
        winterOf(due, "TS20aS20bS20cdS20da", 2, UNKNOWN, UNKNOWN, 34, 41);
        winterOf(due, "TS20aS20bcS20cdS20da", 1, UNKNOWN, 2, 3, 4);
    }

    @Edge(promise = 9, says = "(now, itself as well)")
    static void whoIsStillToComeCounts(Due due) {
        // The last one is gone in its own turn alone: the first two were of three.
        winterOf(due, "TS20bcS20cdS20a", 1, 2, 3, UNKNOWN);
    }

    @Edge(promise = 9, says = "(now, itself as well)")
    static void whoWasGoneBeforeDoesNotCount(Due due) {
        Asked x = Asked.told(due, "TS00abS00bcS00cdS10a").now("join(0, 1)");
        x.is("winter()", 0).is("bends(0)", 123).is("bends(2)", 34);
    }

    @Edge(promise = 9, says = "(now, itself as well)")
    static void whoWasHungCountsWhereItIs(Due due) {
        Asked x = Asked.told(due, "TS00abS00bcS10cd").now("hang(2, 0)");
        x.is("winter()", 0).is("bends(0)", 1).is("bends(1)", 2).is("bends(2)", 3);
        x.now("hang(2, 3)").is("winter()", 0).is("count(3)", 3);
    }

    @Edge(promise = 9, says = "it loses its last BEND")
    static void plainOfOneBendAndOfTwelve(Due due) {
        winterOf(due, "TS02aS02bS00c", 1, 1, 2, UNKNOWN);
        Asked x = Asked.told(due, "TS00abcdabS00cdcdcdS02aS02b").now("join(0, 1)");
        x.is("winter()", 0).is("bends(0)", 12341234343L);
    }

    @Edge(promise = 9, says = "THIN: likewise, and then its first one")
    static void thinOfOneToThreeBends(Due due) {
        winterOf(due, "TS02aS02bS01c", 1, 1, 2, UNKNOWN);
        winterOf(due, "TS02aS02bS01cd", 1, 1, 2, UNKNOWN);
        winterOf(due, "TS02aS02bS01cda", 0, 1, 2, 4);
        winterOf(due, "TS02aS02bS01cdab", 0, 1, 2, 41);
    }

    @Edge(promise = 9, says = "THIN: likewise, and then its first one")
    static void thinOfTwoInAHouse(Due due) {
        winterOf(due, "TS01abcS01bcd", 0, 123, 234);
        winterOf(due, "TS01a", 0, 1);
    }

    @Edge(promise = 9, says = "THIN: likewise, and then its first one")
    static void thinInACrowdThatItMakesSmallerIsDoneWithBoth(Due due) {
        // It loses both of its ends in its own turn; the next of the three is of two then.
        winterOf(due, "TS01abS00cdS00da", 1, UNKNOWN, 34, 41);
    }

    @Edge(promise = 9, says = "CORDED: nothing")
    static void cordedInACrowd(Due due) {
        winterOf(due, "TS02aS02bS02cS02d", 0, 1, 2, 3, 4);
    }

    @Edge(promise = 9, says = "FLOOD: nothing, but each other STRAND of its HOUSE loses its first BEND.")
    static void floodAloneAndInACrowd(Due due) {
        winterOf(due, "TS03a", 0, 1);
        winterOf(due, "TS03aS02cdS02daS02bc", 0, 1, 4, 1, 3);
    }

    @Edge(promise = 9, says = "FLOOD: nothing, but each other STRAND of its HOUSE loses its first BEND.")
    static void floodNeedsNoCrowd(Due due) {
        winterOf(due, "TS13aS10bcd", 0, 1, 34);
        winterOf(due, "TS10bcdS13a", 0, 34, 1);
    }

    @Edge(promise = 9, says = "each other STRAND of its HOUSE loses its first BEND.")
    static void floodTakesOfEachKind(Due due) {
        winterOf(due, "TS13aS12bcd", 0, 1, 34);
        winterOf(due, "TS13aS11bcd", 0, 1, 34);
        winterOf(due, "TS13abS13bcd", 0, 2, 34);
    }

    @Edge(promise = 9, says = "each other STRAND of its HOUSE loses its first BEND.")
    static void floodLeavesOtherHouses(Due due) {
        winterOf(due, "TS13aS00bcdS22bS30c", 0, 1, 234, 2, 3);
    }

    @Edge(promise = 9, says = "A STRAND that has no BEND left is GONE at once.")
    static void whoIsFloodedAwayCountsNoMore(Due due) {
        winterOf(due, "TS23aS20bS20cdS20d", 2, 1, UNKNOWN, 4, UNKNOWN);
        winterOf(due, "TS23aS20bS20cda", 1, 1, UNKNOWN, 41);
    }

    @Edge(promise = 9, says = "A STRAND that has no BEND left is GONE at once.")
    static void aFloodThatIsGoneFloodsNoMore(Due due) {
        winterOf(due, "TS03aS03bS02cda", 1, 1, UNKNOWN, 41);
        winterOf(due, "TS03aS03bcS02cda", 1, UNKNOWN, 3, 1);
    }

    @Edge(promise = 9, says = "A STRAND that has no BEND left is GONE at once.")
    static void aFloodBehindACrowd(Due due) {
        // The crowd loses its last ones first, and then its first ones.
        winterOf(due, "TS00abcS00bcdS03a", 0, 2, 3, 1);
        winterOf(due, "TS00abS00bcS03a", 2, UNKNOWN, UNKNOWN, 1);
    }

    @Edge(promise = 9, says = "A WINTER, by number each STRAND that is there")
    static void byNumberTheFirstToldComesFirst(Due due) {
        // The same four: the flood comes first, or it comes last.
        winterOf(due, "TS03aS00bS00cdS00da", 2, 1, UNKNOWN, UNKNOWN, 1);
        winterOf(due, "TS00bS00cdS00daS03a", 3, UNKNOWN, UNKNOWN, UNKNOWN, 1);
    }

    @Edge(promise = 9, says = "A WINTER: how many are GONE by it.")
    static void fromNoneToThreeAreGone(Due due) {
        winterOf(due, "TS00aS00b", 0, 1, 2);
        winterOf(due, "TS00aS00bS00c", 1, UNKNOWN, 2, 3);
        winterOf(due, "TS00aS00bS00cS00d", 2, UNKNOWN, UNKNOWN, 3, 4);
        winterOf(due, "TS00aS00bS00cS03d", 3, UNKNOWN, UNKNOWN, UNKNOWN, 4);
    }

    @Edge(promise = 9, says = "A WINTER: how many are GONE by it.")
    static void whoWasGoneBeforeIsNotToldAgain(Due due) {
        Asked x = Asked.told(due, "TS00aS00bS00cS03d");
        x.is("winter()", 3).is("winter()", 0).is("winter()", 0).is("count(2)", 8).is("count(4)", 3);
        x.is("undo()", 2).is("undo()", 1).is("undo()", 0).is("winter()", 3);
    }

    @Edge(promise = 9, says = "THE YEAR is one more.")
    static void aWinterOfNone(Due due) {
        new Asked(due).is("winter()", 0).is("count(4)", 1).is("count(7)", 1).is("winter()", 0).is("count(4)", 2);
        Asked.told(due, "T").is("winter()", 0).is("count(4)", 1).is("undo()", 0).is("count(4)", 0);
    }

    @Edge(promise = 9, says = "THE YEAR is one more.")
    static void noOtherActMakesTheYearMore(Due due) {
        Asked x = Asked.told(due, "TS00abS00bc");
        x.now("hang(0, 1)", "turn(0)", "snip(0)", "hang(0, 0)", "join(0, 1)").is("count(7)", 5).is("count(4)", 0);
        x.is("winter()", 0).is("count(4)", 1);
    }

    // ---- 10 hang

    @Edge(promise = 10, says = "UNKNOWN: both; STATE: it is there.")
    static void hangOfNoStrand(Due due) {
        Asked x = Asked.rich(due);
        for (String strand : new String[] {"-1", "4", "MIN", "MAX"}) {
            x.leaves("hang(" + strand + ", 2)", UNKNOWN);
        }
        Asked.told(due, "TS00a").leaves("hang(1, 1)", UNKNOWN).is("hang(0, 1)", 1);
    }

    @Edge(promise = 10, says = "there is no such STRAND (a GONE one is none)")
    static void hangOfOneThatIsGone(Due due) {
        Asked x = Asked.rich(due);
        for (int house = 0; house < 4; house++) {
            x.leaves("hang(3, " + house + ")", UNKNOWN);
        }
    }

    @Edge(promise = 10, says = "HOUSE (0 to 3)")
    static void hangInNoHouse(Due due) {
        Asked x = Asked.rich(due);
        for (String house : new String[] {"-1", "4", "MIN", "MAX"}) {
            x.leaves("hang(0, " + house + ")", UNKNOWN);
        }
        x.leaves("hang(3, 4)", UNKNOWN).leaves("hang(-1, -1)", UNKNOWN);
    }

    @Edge(promise = 10, says = "HOUSE (0 to 3)")
    static void hangInEachHouse(Due due) {
        Asked x = Asked.told(due, "TS20a");
        for (int house : new int[] {0, 1, 2, 3, 0}) {
            x.is("hang(0, " + house + ")", 1).is("strand(0, 0)", house).is("count(6)", 1 << house);
        }
    }

    @Edge(promise = 10, says = "STATE: it is there.")
    static void hangWhereItIs(Due due) {
        Asked x = Asked.rich(due);
        x.leaves("hang(0, 0)", STATE).leaves("hang(1, 1)", STATE).is("hang(1, 3)", 1).leaves("hang(1, 3)", STATE);
        x.is("hang(1, 1)", 2);
    }

    @Edge(promise = 10, says = "HUNG: how many STRANDS are in that HOUSE then.")
    static void hangFromOneToFour(Due due) {
        Asked x = Asked.told(due, "TS00aS01bS02cS03d");
        x.is("hang(0, 2)", 1).is("hang(1, 2)", 2).is("hang(2, 2)", 3).is("hang(3, 2)", 4).is("count(6)", 4);
        x.is("hang(3, 0)", 1);
    }

    @Edge(promise = 10, says = "HUNG: how many STRANDS are in that HOUSE then.")
    static void hangDoesNotCountWhoIsGone(Due due) {
        Asked x = Asked.told(due, "TS00abS00bcS10dS10a").now("join(0, 1)");
        x.is("hang(2, 0)", 2).is("hang(3, 0)", 3);
    }

    @Edge(promise = 10, says = "HUNG: a STRAND is in another HOUSE.")
    static void hangChangesTheHouseAlone(Due due) {
        Asked x = Asked.told(due, "TS01abcS10d");
        x.is("hang(0, 1)", 2).is("bends(0)", 123).is("strand(0, 1)", 1).is("strand(1, 0)", 1).is("count(4)", 0);
        x.is("count(7)", 1).is("undo()", 0).is("strand(0, 0)", 0);
    }

    // ---- 11 turn

    @Edge(promise = 11, says = "TURNED: its first BEND then. UNKNOWN.")
    static void turnOfNoStrand(Due due) {
        Asked x = Asked.rich(due);
        for (String strand : new String[] {"-1", "3", "4", "MIN", "MAX"}) {
            x.leaves("turn(" + strand + ")", UNKNOWN);
        }
        Asked.told(due, "TS00ab").leaves("turn(1)", UNKNOWN).is("turn(0)", 2);
    }

    @Edge(promise = 11, says = "TURNED: its BENDS come the other way round.")
    static void turnOfOneTwoThreeAndSixBends(Due due) {
        Asked x = Asked.told(due, "TS00dS00abS00abcS00abcdba");
        x.is("turn(0)", 4).is("bends(0)", 4).is("turn(1)", 2).is("bends(1)", 21).is("turn(2)", 3).is("bends(2)", 321);
        x.is("turn(3)", 1).is("bends(3)", 124321).is("turn(3)", 1).is("bends(3)", 123421).is("count(7)", 5);
    }

    @Edge(promise = 11, says = "TURNED: its BENDS come the other way round.")
    static void turnOfElevenAndTwelveBends(Due due) {
        Asked x = Asked.told(due, "TS00abcdabS00cdcdcd").now("join(0, 1)");
        x.is("turn(0)", 4).is("bends(0)", 434343214321L).is("snip(0)", 1).is("turn(0)", 2);
        x.is("bends(0)", 23412343434L);
    }

    @Edge(promise = 11, says = "ACTS (WINTERS, HUNG, TURNED, SNIPPED, JOINED) are a row")
    static void turnOfWhatIsAlikeBothWaysIsAnAct(Due due) {
        Asked x = Asked.told(due, "TS00abaS00a");
        x.is("turn(0)", 1).is("count(7)", 1).is("turn(1)", 1).is("count(7)", 2).is("undo()", 1);
    }

    // ---- 12 snip

    @Edge(promise = 12, says = "UNKNOWN; STATE: it has one alone.")
    static void snipOfNoStrand(Due due) {
        Asked x = Asked.rich(due);
        for (String strand : new String[] {"-1", "3", "4", "MIN", "MAX"}) {
            x.leaves("snip(" + strand + ")", UNKNOWN);
        }
        Asked.told(due, "TS00ab").leaves("snip(1)", UNKNOWN).is("snip(0)", 2);
    }

    @Edge(promise = 12, says = "SNIPPED: it loses its last BEND (it has two or more).")
    static void snipOfOneBend(Due due) {
        Asked x = Asked.told(due, "TS00abS00c").now("turn(0)", "turn(0)");
        x.leaves("snip(1)", STATE).is("snip(0)", 2).leaves("snip(0)", STATE).is("bends(0)", 1).is("count(7)", 3);
    }

    @Edge(promise = 12, says = "SNIPPED: the BEND that is lost.")
    static void snipFromTwelveToOne(Due due) {
        Asked x = Asked.told(due, "TS00abcdabS00cdcdcd").now("join(0, 1)");
        int[] lost = {4, 3, 4, 3, 4, 3, 2, 1, 4, 3, 2};
        for (int i = 0; i < lost.length; i++) {
            x.is("snip(0)", lost[i]).is("strand(0, 2)", 11 - i);
        }
        x.is("snip(0)", STATE).is("bends(0)", 1).is("count(2)", 1);
    }

    // ---- 13 join

    @Edge(promise = 13, says = "UNKNOWN: both; OUTSIDE: both are one; STATE: they are not in one "
        + "HOUSE; FULL: more than 12.")
    static void joinOfNoStrand(Due due) {
        Asked x = Asked.rich(due);
        for (String strand : new String[] {"-1", "3", "4", "MIN", "MAX"}) {
            x.leaves("join(1, " + strand + ")", UNKNOWN).leaves("join(" + strand + ", 1)", UNKNOWN);
        }
        Asked.told(due, "TS00ab").leaves("join(0, 1)", UNKNOWN).leaves("join(1, 0)", UNKNOWN);
    }

    @Edge(promise = 13, says = "UNKNOWN: both; OUTSIDE: both are one")
    static void joinUnknownComesBeforeOutside(Due due) {
        Asked x = Asked.rich(due);
        x.leaves("join(3, 3)", UNKNOWN).leaves("join(4, 4)", UNKNOWN).leaves("join(-1, -1)", UNKNOWN);
    }

    @Edge(promise = 13, says = "OUTSIDE: both are one")
    static void joinOfOneWithItself(Due due) {
        Asked.rich(due).leaves("join(0, 0)", OUTSIDE).leaves("join(2, 2)", OUTSIDE);
        // Not FULL, though 12 and 12 were more than 12.
        Asked.told(due, "TS00abcdabS00cdcdcd").now("join(0, 1)").leaves("join(0, 0)", OUTSIDE);
    }

    @Edge(promise = 13, says = "STATE: they are not in one HOUSE")
    static void joinOfTwoHouses(Due due) {
        Asked x = Asked.rich(due);
        x.leaves("join(0, 1)", STATE).leaves("join(1, 0)", STATE).is("hang(1, 0)", 2).is("join(1, 0)", 8);
    }

    @Edge(promise = 13, says = "STATE: they are not in one HOUSE; FULL: more than 12.")
    static void joinStateComesBeforeFull(Due due) {
        Asked x = Asked.told(due, "TS00abcdabS00cdcdcdS10a").now("join(0, 1)");
        x.leaves("join(0, 2)", STATE).is("hang(2, 0)", 2).leaves("join(0, 2)", FULL);
    }

    @Edge(promise = 13, says = "12 BENDS at most.")
    static void joinToTwelveAndToThirteen(Due due) {
        Asked x = Asked.told(due, "TS00abcdabS00cdcdcdS00aS00ba").now("keep(0)");
        x.is("join(0, 1)", 12).leaves("join(0, 2)", FULL).is("join(2, 0)", 12).is("bends(2)", 123412343434L);
        x.now("again(0)").is("join(0, 3)", 7).is("bends(0)", 1234121).leaves("join(0, 1)", FULL);
        x.leaves("join(1, 0)", FULL).is("snip(0)", 1).is("join(0, 1)", 12);
    }

    @Edge(promise = 13, says = "those of the other one, less the OVERLAP")
    static void joinThatIsTwelveByTheOverlapAlone(Due due) {
        // 7 and 6 less 1 are 12; 8 and 6 less 1 would be 13.
        Asked x = Asked.told(due, "TS00abcdabS00ddS00dcccccS00a").now("keep(0)");
        x.is("join(0, 1)", 8).leaves("join(0, 2)", FULL).is("snip(0)", 4).is("join(0, 2)", 12);
        x.is("bends(0)", 123412433333L).is("join(0, 3)", FULL);
    }

    @Edge(promise = 13, says = "JOINED: how many BENDS the one has then.")
    static void joinOfTwelveWithWhatIsAllAlike(Due due) {
        Asked x = Asked.told(due, "TS00abcdabS00cdcdcdS00cdS00ab").now("join(0, 1)");
        x.is("join(0, 2)", 12).is("bends(0)", 123412343434L).is("join(3, 0)", 12).is("bends(3)", 123412343434L);
        x.is("count(2)", 8);
    }

    @Edge(promise = 13, says = "the other one is GONE")
    static void joinedTheOtherIsGone(Due due) {
        Asked x = Asked.told(due, "TS11abS12bcS10d");
        x.is("join(0, 1)", 3).is("bends(0)", 123).is("bends(1)", UNKNOWN).is("count(2)", 5).is("count(1)", 3);
        x.is("strand(0, 1)", 1).is("strand(0, 0)", 1).is("join(0, 1)", UNKNOWN).is("join(2, 0)", 4);
    }

    @Edge(promise = 13, says = "JOINED: of two STRANDS in one HOUSE the one has behind its BENDS "
        + "those of the other one, less the OVERLAP")
    static void joinOfNoOverlapAndOfAll(Due due) {
        Asked x = Asked.told(due, "TS00abS00cdS00abcdS00d").now("keep(0)");
        x.is("join(0, 1)", 4).is("bends(0)", 1234).is("join(0, 2)", 4).is("join(0, 3)", 4).is("count(2)", 1);
        x.now("again(0)").is("join(1, 0)", 4).is("bends(1)", 3412);
        // Within it is no overlap.
        x.now("again(0)", "turn(2)").is("join(2, 3)", 5).is("bends(2)", 43214);
    }

    // ---- 14 undo

    @Edge(promise = 14, says = "STATE: there is none.")
    static void undoOfNone(Due due) {
        new Asked(due).leaves("undo()", STATE);
        Asked.told(due, "TS00ab").leaves("undo()", STATE).is("turn(0)", 2).is("undo()", 0).leaves("undo()", STATE);
    }

    @Edge(promise = 14, says = "ACTS (WINTERS, HUNG, TURNED, SNIPPED, JOINED) are a row (14 at most; "
        + "of more the first one is forgotten)")
    static void fourteenActsAreAllUndone(Due due) {
        Asked x = Asked.told(due, "TS00ab");
        x.times(14, "winter()").is("count(7)", 14);
        for (int left = 13; left >= 0; left--) {
            x.is("undo()", left).is("count(4)", left).is("count(7)", left);
        }
        x.is("undo()", STATE).is("count(4)", 0);
    }

    @Edge(promise = 14, says = "of more the first one is forgotten")
    static void ofFifteenActsTheFirstIsForgotten(Due due) {
        Asked x = Asked.told(due, "TS00abcd").now("snip(0)");
        x.times(13, "winter()").is("count(7)", 14).is("winter()", 0).is("count(7)", 14);
        for (int left = 13; left >= 0; left--) {
            x.is("undo()", left);
        }
        x.is("undo()", STATE).is("bends(0)", 123).is("count(4)", 0);
    }

    @Edge(promise = 14, says = "of more the first one is forgotten")
    static void theRowGoesRoundMoreThanOnce(Due due) {
        Asked x = Asked.told(due, "TS00ab");
        x.times(31, "winter()").is("count(7)", 14);
        x.times(5, "undo()").is("count(7)", 9).is("count(4)", 26);
        x.times(5, "winter()").is("count(7)", 14).is("winter()", 0).is("count(7)", 14).is("count(4)", 32);
        for (int left = 13; left >= 0; left--) {
            x.is("undo()", left).is("count(4)", 18 + left);
        }
        x.is("undo()", STATE).is("count(4)", 18);
    }

    @Edge(promise = 14, says = "the last one can be undone.")
    static void eachKindOfActIsUndone(Due due) {
        Asked x = Asked.told(due, "TS01abcS02cdS00bdS13a");
        x.is("hang(3, 0)", 4).is("undo()", 0).is("strand(3, 0)", 1).is("count(6)", 3);
        x.is("turn(0)", 3).is("undo()", 0).is("bends(0)", 123);
        x.is("snip(0)", 3).is("undo()", 0).is("bends(0)", 123);
        x.is("join(0, 1)", 4).is("undo()", 0).is("bends(0)", 123).is("bends(1)", 34).is("count(2)", 15);
        x.is("winter()", 0).is("undo()", 0).is("bends(0)", 123).is("bends(2)", 24).is("count(4)", 0);
    }

    @Edge(promise = 14, says = "the last one can be undone.")
    static void whoIsGoneByAnActIsThereWhenItIsUndone(Due due) {
        Asked x = Asked.told(due, "TS00aS00bS00cS03d");
        x.is("winter()", 3).is("count(2)", 8).is("undo()", 0).is("count(2)", 15).is("count(3)", 4);
        x.is("strand(2, 0)", 0).is("strand(2, 1)", 0).is("bends(2)", 3);
    }

    @Edge(promise = 14, says = "What is refused changes nothing.")
    static void whatIsRefusedIsNoAct(Due due) {
        Asked x = Asked.told(due, "TS00aS10b").now("turn(0)");
        x.now("hang(0, 0)", "hang(0, 4)", "turn(2)", "snip(0)", "join(0, 1)", "join(0, 0)", "again(0)", "bed(1, 5)");
        x.is("count(7)", 1).is("undo()", 0).is("undo()", STATE);
    }

    @Edge(promise = 14, says = "ACTS (WINTERS, HUNG, TURNED, SNIPPED, JOINED) are a row")
    static void noOtherCallIsAnAct(Due due) {
        Asked x = Asked.told(due, "TS00abS00bc").now("turn(0)");
        x.now("write(84)", "wipe()", "bed(2, 12)", "lay(0, 1)", "seed(4)", "years(30)", "judge(4, 0)", "keep(0)");
        x.now("later(0, 20)", "rests(0, 1, 0)", "unlay()").is("count(7)", 1).is("undo()", 0).is("bends(0)", 12);
    }

    @Edge(promise = 14, says = "The last ACT is undone: how many are left.")
    static void anActBehindAnUndoneOneTakesItsPlace(Due due) {
        Asked x = Asked.told(due, "TS00abc").now("turn(0)", "snip(0)");
        x.is("undo()", 1).is("hang(0, 2)", 1).is("count(7)", 2).is("undo()", 1).is("bends(0)", 321);
        x.is("strand(0, 0)", 0).is("undo()", 0).is("bends(0)", 123);
    }

    @Edge(promise = 14, says = "The last ACT is undone: how many are left.")
    static void undoIsNotUndone(Due due) {
        Asked x = Asked.rich(due);
        x.is("undo()", 3).is("bends(1)", 3412).is("undo()", 2).is("bends(3)", 12).is("undo()", 1);
        x.is("bends(0)", 123412).is("undo()", 0).is("strand(1, 0)", 0).leaves("undo()", STATE);
    }

    @Edge(promise = 14, says = "(THE ROW of ACTS is empty when one goes on)")
    static void undoAfterValleyAndAgain(Due due) {
        Asked x = Asked.rich(due);
        x.is("again(0)", 0).leaves("undo()", STATE).is("valley()", 2).leaves("undo()", STATE);
    }
}
