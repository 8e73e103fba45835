/** Promises 15 to 21, winters to come and the river: least and most, empty and full, and what is refused. */
public final class EdgesRiverTest {
    private static final int UNKNOWN = -1, OUTSIDE = -2, NONE = -9;

    private EdgesRiverTest() {
    }

    public static void main(String[] args) {
        Edges.run(EdgesRiverTest.class);
    }

    /** Twelve bends beside a flood: it loses one each winter, and is gone in the twelfth. */
    private static Asked twelveInAFlood(Due due) {
        return Asked.told(due, "TS02abcdabS02cdcdcdS13a").now("join(0, 1)", "hang(2, 0)");
    }

    // ---- 15 later

    @Edge(promise = 15, says = "IN n WINTERS (0 to 20): how many BENDS a STRAND has (0: it is GONE).")
    static void laterOfEachNumberOfWinters(Due due) {
        Asked x = twelveInAFlood(due);
        for (int n = 0; n <= 20; n++) {
            x.is("later(0, " + n + ")", Math.max(12 - n, 0)).is("later(2, " + n + ")", 1);
        }
    }

    @Edge(promise = 15, says = "UNKNOWN; OUTSIDE: n.")
    static void laterMinusOneAnd21(Due due) {
        Asked x = Asked.rich(due);
        x.leaves("later(0, -1)", OUTSIDE).leaves("later(0, 21)", OUTSIDE).leaves("later(0, MIN)", OUTSIDE);
        x.leaves("later(0, MAX)", OUTSIDE).leaves("later(0, 0)", 6).leaves("later(0, 20)", 6);
    }

    @Edge(promise = 15, says = "UNKNOWN; OUTSIDE: n.")
    static void laterOfNoStrand(Due due) {
        Asked x = Asked.rich(due);
        for (String strand : new String[] {"-1", "3", "4", "MIN", "MAX"}) {
            x.leaves("later(" + strand + ", 1)", UNKNOWN).is("later(" + strand + ", 21)", UNKNOWN);
        }
        Asked.told(due, "TS00a").is("later(1, 0)", UNKNOWN).is("later(0, 0)", 1);
    }

    @Edge(promise = 15, says = "In what follows nothing is changed.")
    static void laterChangesNothing(Due due) {
        Asked x = Asked.rich(due);
        x.leaves("later(1, 1)", 2).leaves("later(1, 3)", 0).is("count(4)", 1).is("count(2)", 7);
    }

    @Edge(promise = 15, says = "IN n WINTERS. UNKNOWN")
    static void laterIsZeroFromWhenItIsGone(Due due) {
        Asked x = Asked.told(due, "TS00aS00bS00cS00d");
        x.is("later(0, 0)", 1).is("later(0, 1)", 0).is("later(0, 2)", 0).is("later(0, 20)", 0);
        x.is("later(2, 20)", 1).is("later(3, 20)", 1).is("winter()", 2).is("later(0, 0)", UNKNOWN);
    }

    // ---- 16 lasts

    @Edge(promise = 16, says = "LASTS: in how many WINTERS (1 to 20) it is GONE first; NONE.")
    static void lastsFromOneToTwelve(Due due) {
        Asked x = twelveInAFlood(due);
        for (int n = 12; n >= 1; n--) {
            x.is("lasts(0)", n).is("winter()", n == 1 ? 1 : 0);
        }
        x.is("lasts(0)", UNKNOWN).is("lasts(2)", NONE);
    }

    @Edge(promise = 16, says = "LASTS; NONE.")
    static void lastsOfOneThatIsNeverGone(Due due) {
        Asked.told(due, "TS00a").leaves("lasts(0)", NONE);
        // It loses while they are three, and keeps what it has then.
        Asked.told(due, "TS00aS00abcS00abc").is("lasts(0)", 1).is("lasts(1)", NONE).is("lasts(2)", NONE);
    }

    @Edge(promise = 16, says = "LASTS; NONE. UNKNOWN.")
    static void lastsOfNoStrand(Due due) {
        Asked x = Asked.rich(due);
        for (String strand : new String[] {"-1", "3", "4", "MIN", "MAX"}) {
            x.leaves("lasts(" + strand + ")", UNKNOWN);
        }
        Asked.told(due, "TS00a").is("lasts(1)", UNKNOWN);
    }

    @Edge(promise = 16, says = "In what follows nothing is changed.")
    static void lastsChangesNothing(Due due) {
        Asked.rich(due).leaves("lasts(1)", 3).leaves("lasts(0)", NONE).is("count(4)", 1);
    }

    // ---- 17 overlap

    @Edge(promise = 17, says = "UNKNOWN: both; OUTSIDE: both are one.")
    static void overlapOfNoStrand(Due due) {
        Asked x = Asked.rich(due);
        for (String strand : new String[] {"-1", "3", "4", "MIN", "MAX"}) {
            x.leaves("overlap(1, " + strand + ")", UNKNOWN).leaves("overlap(" + strand + ", 1)", UNKNOWN);
        }
        Asked.told(due, "TS00ab").is("overlap(0, 1)", UNKNOWN).is("overlap(1, 0)", UNKNOWN);
    }

    @Edge(promise = 17, says = "OVERLAP. UNKNOWN: both; OUTSIDE: both are one.")
    static void overlapOfOneWithItself(Due due) {
        Asked x = Asked.rich(due);
        x.leaves("overlap(0, 0)", OUTSIDE).leaves("overlap(2, 2)", OUTSIDE);
        x.leaves("overlap(3, 3)", UNKNOWN).leaves("overlap(4, 4)", UNKNOWN).leaves("overlap(-1, -1)", UNKNOWN);
    }

    @Edge(promise = 17, says = "by how many BENDS (most, 0 and more, no more than either has)")
    static void overlapFromNoneToAll(Due due) {
        Asked x = Asked.told(due, "TS00abcdS10dabcS20cdS30abcd");
        x.is("overlap(2, 3)", 0).is("overlap(0, 1)", 1).is("overlap(0, 2)", 2).is("overlap(1, 0)", 3);
        x.is("overlap(0, 3)", 4).is("overlap(3, 0)", 4).is("overlap(2, 0)", 0);
    }

    @Edge(promise = 17, says = "no more than either has")
    static void overlapOfAShorterOne(Due due) {
        Asked x = Asked.told(due, "TS00aS00aaaaaaS00ab");
        x.is("overlap(0, 1)", 1).is("overlap(1, 0)", 1).is("overlap(0, 2)", 1).is("overlap(2, 0)", 0);
    }

    @Edge(promise = 17, says = "(most, 0 and more, no more than either has) the end of the one is as "
        + "the begin of the other.")
    static void overlapIsTheMostOfSeveral(Due due) {
        // By 1, by 3 and by 5 the end is as the begin.
        Asked x = Asked.told(due, "TS00ababaS00ababaS10babab");
        x.is("overlap(0, 1)", 5).is("overlap(0, 2)", 4).is("overlap(2, 0)", 4);
        // By 1 and by 4, not by 2 and by 3.
        Asked.told(due, "TS00dabbaS00abbaab").is("overlap(0, 1)", 4);
    }

    @Edge(promise = 17, says = "OVERLAP of the one and the other: by how many BENDS")
    static void overlapOfWhatIsWithin(Due due) {
        Asked.told(due, "TS00abcS00bS33bcd").is("overlap(0, 1)", 0).is("overlap(1, 0)", 0).is("overlap(0, 2)", 2);
    }

    @Edge(promise = 17, says = "no more than either has")
    static void overlapOfTwelve(Due due) {
        Asked x = Asked.told(due, "TS00aaaaaaS00baaaaaS00aaaaaaS10b").now("join(0, 1)");
        x.is("bends(0)", 111111211111L).is("overlap(0, 2)", 5).is("overlap(2, 0)", 6).is("overlap(3, 0)", 0);
        x.leaves("overlap(0, 3)", 0);
    }

    // ---- 18 river

    @Edge(promise = 18, says = "RIVER: how many BENDS (what = 0), the order (1). OUTSIDE.")
    static void riverWhatMinusOneAndTwo(Due due) {
        Asked x = Asked.rich(due);
        x.leaves("river(-1)", OUTSIDE).leaves("river(2)", OUTSIDE).leaves("river(MIN)", OUTSIDE);
        x.leaves("river(MAX)", OUTSIDE).leaves("river(0)", 8).leaves("river(1)", 231);
    }

    @Edge(promise = 18, says = "how many; the order (0: none).")
    static void riverOfNone(Due due) {
        new Asked(due).leaves("river(0)", 0).leaves("river(1)", 0).is("river(2)", OUTSIDE);
        Asked.told(due, "T").is("river(0)", 0).is("river(1)", 0);
    }

    @Edge(promise = 18, says = "of like ones the least (figures, 1 more each)")
    static void riverOfOne(Due due) {
        Asked.told(due, "TS00abcdab").is("river(0)", 6).is("river(1)", 1);
        Asked.told(due, "TS00abS00bS00cdS03d").now("join(0, 1)").is("river(1)", 134);
        Asked x = Asked.told(due, "TS00aS00bS00cS03d");
        x.is("winter()", 3).is("river(0)", 1).is("river(1)", 4);
    }

    @Edge(promise = 18, says = "fewest BENDS come; of like ones the least")
    static void riverOfFourOfSix(Due due) {
        Asked x = Asked.told(due, "TS00aaaaaaS00bbbbbbS00ccccccS00dddddd");
        x.is("river(0)", 24).is("river(1)", 1234);
        Asked.told(due, "TS00aaaaaaS00aaaaaaS00aaaaaaS00aaaaaa").is("river(0)", 6).is("river(1)", 1234);
    }

    @Edge(promise = 18, says = "of like ones the least (figures, 1 more each)")
    static void riverByTheLastOrder(Due due) {
        // Only by the order 4 3 2 1 each goes on into the next.
        Asked x = Asked.told(due, "TS00cdS00bccS00abbS00aa");
        x.is("river(0)", 7).is("river(1)", 4321);
        // Two orders are alike, 2 1 and 1 2.
        Asked.told(due, "TS00abaS00bab").is("river(0)", 4).is("river(1)", 12);
    }

    @Edge(promise = 18, says = "by the OVERLAP of that row (as if it was a STRAND) and it")
    static void riverByTheRowAndNotByItsLastStrand(Due due) {
        // b lies at the end of ab; the row ab, and not b alone, goes on into abc.
        Asked.told(due, "TS00abS00bS00abc").is("river(0)", 3).is("river(1)", 123);
        // By its last strand alone, that lies within, the row would go on by one bend less.
        Asked.told(due, "TS00abcS00cS00bcd").is("river(0)", 4).is("river(1)", 123);
    }

    @Edge(promise = 18, says = "by the OVERLAP of that row (as if it was a STRAND) and it")
    static void riverDoesNotTakeInWhatLiesWithin(Due due) {
        Asked.told(due, "TS00abcS00b").is("river(0)", 4).is("river(1)", 12);
    }

    @Edge(promise = 18, says = "RIVER: of all orders of STRANDS that are there")
    static void riverOfWhoIsThere(Due due) {
        Asked x = Asked.told(due, "TS00abS00bcS10cdS20da").now("join(0, 1)");
        x.is("river(0)", 5).is("river(1)", 134).is("undo()", 0).is("river(0)", 5).is("river(1)", 1234);
    }

    // ---- 19 covered

    @Edge(promise = 19, says = "PLACES that are COVERED, as bits.")
    static void coveredFirstAndLastPlace(Due due) {
        Asked x = Asked.told(due, "TS00aS10d").now("bed(12, 122222222224)");
        x.leaves("covered()", 1 | 1 << 11).now("bed(12, 111111111111)").is("covered()", 4095);
        x.now("bed(12, 222222222222)").is("covered()", 0).now("bed(1, 4)").is("covered()", 1);
    }

    @Edge(promise = 19, says = "PLACES (bits) of THE BED that are COVERED: on which a STRAND lies, wherever any lies.")
    static void coveredInNoBedOrByNone(Due due) {
        Asked.told(due, "TS00a").is("covered()", 0);
        new Asked(due).now("bed(12, 111111111111)").leaves("covered()", 0);
    }

    @Edge(promise = 19, says = "on which a STRAND lies, wherever any lies.")
    static void coveredWhereverOneLies(Due due) {
        Asked.told(due, "TS00aa").now("bed(7, 1112112)").is("covered()", 0b0110111);
        Asked.told(due, "TS00aba").now("bed(12, 121212112124)").is("covered()", 0b001111111111);
    }

    @Edge(promise = 19, says = "on which a STRAND lies, wherever any lies.")
    static void coveredByWhatIsAllWithinTheBed(Due due) {
        Asked.told(due, "TS00abc").now("bed(5, 12312)")
            .is("covered()", 0b00111).now("bed(2, 12)").is("covered()", 0).now("bed(3, 123)").is("covered()", 7);
    }

    @Edge(promise = 19, says = "there is no such STRAND (a GONE one is none)")
    static void coveredByWhoIsThere(Due due) {
        Asked x = Asked.told(due, "TS00aS00bS00cS03d").now("bed(4, 1234)");
        x.is("covered()", 15).is("winter()", 3).is("covered()", 8).is("undo()", 0).is("covered()", 15);
    }

    // ---- 20 ways

    @Edge(promise = 20, says = "so that all of THE BED is COVERED; 0, if any lies nowhere.")
    static void waysOfNone(Due due) {
        new Asked(due).leaves("ways()", 1).now("bed(1, 1)").leaves("ways()", 0).now("bed(0, 0)").is("ways()", 1);
    }

    @Edge(promise = 20, says = "0, if any lies nowhere.")
    static void waysWhereOneLiesNowhere(Due due) {
        Asked x = Asked.told(due, "TS00aS00b");
        x.is("ways()", 0).now("bed(1, 1)").is("ways()", 0).now("bed(2, 12)").leaves("ways()", 1);
        x.now("bed(1, 2)").is("ways()", 0);
    }

    @Edge(promise = 20, says = "(each by itself, over others, too) so that all of THE BED is COVERED")
    static void waysOverOneAnother(Due due) {
        Asked x = Asked.told(due, "TS00aS00aS00a");
        x.now("bed(1, 1)").is("ways()", 1).now("bed(2, 11)").is("ways()", 6).now("bed(3, 111)").is("ways()", 6);
        x.now("bed(4, 1111)").is("ways()", 0);
    }

    @Edge(promise = 20, says = "in how many ways each STRAND that is there can lie at one place")
    static void waysOfEachAtOnePlaceAlone(Due due) {
        // Wherever it lies a covers all, but at one place it covers one.
        Asked.told(due, "TS00a").now("bed(2, 11)").is("covered()", 3).is("ways()", 0);
    }

    @Edge(promise = 20, says = "WAYS.")
    static void waysOfTwelvePlacesJustCovered(Due due) {
        Asked x = Asked.told(due, "TS00aaaS00aaaS00aaaS00aaa").now("bed(12, 111111111111)");
        x.is("ways()", 24).now("snip(0)").is("ways()", 0).now("bed(11, 11111111111)").is("ways()", 24);
        x.now("bed(10, 1111111111)").is("ways()", 72);
    }

    @Edge(promise = 20, says = "WAYS: in how many ways each STRAND that is there can lie at one place")
    static void waysOfWhoIsThere(Due due) {
        Asked x = Asked.told(due, "TS00aS00bS00cS03d").now("bed(1, 4)");
        x.is("ways()", 0).is("winter()", 3).leaves("ways()", 1);
    }

    // ---- 21 judge

    @Edge(promise = 21, says = "JUDGED; NONE. OUTSIDE: n, row (0 or more, 3 n figures at most).")
    static void judgeOfNoneAndOfFive(Due due) {
        Asked x = Asked.rich(due);
        x.leaves("judge(0, 0)", OUTSIDE).leaves("judge(5, 0)", OUTSIDE).leaves("judge(-1, 0)", OUTSIDE);
        x.leaves("judge(MIN, 0)", OUTSIDE).leaves("judge(MAX, 0)", OUTSIDE);
        x.leaves("judge(1, 0)", NONE).leaves("judge(4, 0)", NONE);
    }

    @Edge(promise = 21, says = "row (0 or more, 3 n figures at most)")
    static void judgeRowBelowZero(Due due) {
        Asked x = Asked.rich(due);
        x.leaves("judge(1, -1)", OUTSIDE).leaves("judge(4, -1)", OUTSIDE).leaves("judge(4, MIN)", OUTSIDE);
        x.leaves("judge(1, 0)", NONE);
    }

    @Edge(promise = 21, says = "row (0 or more, 3 n figures at most)")
    static void judgeRowOfOneFigureTooMany(Due due) {
        Asked x = Asked.rich(due);
        long bound = 1;
        for (int n = 1; n <= 4; n++) {
            bound *= 1000;
            x.leaves("judge(" + n + ", " + (bound - 1) + ")", 0).leaves("judge(" + n + ", " + bound + ")", OUTSIDE);
        }
        x.leaves("judge(4, MAX)", OUTSIDE).leaves("judge(1, 4294967296)", OUTSIDE);
    }

    @Edge(promise = 21, says = "JUDGED: n doings (1 to 4), told as three figures each")
    static void judgeRowOfFewerFigures(Due due) {
        // Figures that are not told are 0 before the others: winters.
        Asked x = Asked.told(due, "TS00a");
        x.is("judge(1, 202)", 0).is("judge(2, 202)", 1).is("judge(3, 202)", 2);
        x.is("judge(4, 202)", 3).is("judge(4, 200)", NONE);
    }

    @Edge(promise = 21, says = "the place of the first that can not be (or is not so); NONE: none.")
    static void judgeEachPlaceOfTheFirst(Due due) {
        Asked x = Asked.told(due, "TS00abS10cd");
        x.is("judge(4, 202200200200)", 0).is("judge(4, 200202200200)", 1).is("judge(4, 200200202200)", 2);
        x.is("judge(4, 200200200202)", 3).is("judge(4, 202202202202)", 0).is("judge(4, 200200200200)", NONE);
    }

    @Edge(promise = 21, says = "(0, 0, 0: A WINTER")
    static void judgeWinters(Due due) {
        Asked x = Asked.told(due, "TS00aS00bS00c");
        x.is("judge(2, 511)", NONE).is("judge(2, 501)", 1).is("judge(1, 501)", NONE).is("judge(3, 512)", 2);
        new Asked(due).is("judge(4, 0)", NONE);
    }

    @Edge(promise = 21, says = "1, a STRAND, a HOUSE: HUNG")
    static void judgeHung(Due due) {
        Asked x = Asked.rich(due);
        x.leaves("judge(1, 103)", NONE).leaves("judge(1, 104)", 0).leaves("judge(1, 109)", 0);
        x.leaves("judge(1, 100)", 0).leaves("judge(2, 101100)", NONE).leaves("judge(2, 101101)", 1);
        x.leaves("judge(1, 130)", 0).leaves("judge(1, 140)", 0).leaves("judge(1, 190)", 0);
    }

    @Edge(promise = 21, says = "2, 0, a STRAND: TURNED")
    static void judgeTurned(Due due) {
        Asked x = Asked.rich(due);
        x.leaves("judge(1, 200)", NONE).leaves("judge(1, 202)", NONE).leaves("judge(1, 203)", 0);
        x.leaves("judge(1, 204)", 0).leaves("judge(1, 209)", 0);
        // dab lies in the bed, bad does not, and turned twice it does.
        x.leaves("judge(2, 201601)", 1).leaves("judge(3, 201201601)", NONE);
    }

    @Edge(promise = 21, says = "3, 0, a STRAND: SNIPPED")
    static void judgeSnipped(Due due) {
        Asked x = Asked.rich(due);
        x.leaves("judge(2, 301301)", NONE).leaves("judge(3, 301301301)", 2).leaves("judge(1, 303)", 0);
        x.leaves("judge(1, 304)", 0).leaves("judge(1, 309)", 0);
    }

    @Edge(promise = 21, says = "4, two STRANDS: JOINED")
    static void judgeJoined(Due due) {
        Asked x = Asked.rich(due);
        x.leaves("judge(1, 412)", NONE).leaves("judge(1, 421)", NONE).leaves("judge(1, 411)", 0);
        x.leaves("judge(1, 401)", 0).leaves("judge(1, 413)", 0).leaves("judge(1, 431)", 0).leaves("judge(1, 414)", 0);
        // Who was joined is gone for what comes behind.
        x.leaves("judge(2, 412412)", 1).leaves("judge(2, 412202)", 1).leaves("judge(2, 412513)", NONE);
    }

    @Edge(promise = 21, says = "4, two STRANDS: JOINED")
    static void judgeJoinedToTwelveAndThirteen(Due due) {
        Asked x = Asked.told(due, "TS00abcdabS00cdcdcdS00a");
        x.is("judge(1, 401)", NONE).is("judge(2, 401402)", 1).is("judge(3, 401300402)", NONE);
    }

    @Edge(promise = 21, says = "5, a STRAND, n: it has n BENDS or more")
    static void judgeHowManyBends(Due due) {
        Asked x = Asked.rich(due);
        x.leaves("judge(1, 500)", NONE).leaves("judge(1, 506)", NONE).leaves("judge(1, 507)", 0);
        x.leaves("judge(1, 513)", NONE).leaves("judge(1, 514)", 0);
        x.leaves("judge(1, 530)", 0).leaves("judge(1, 540)", 0);
        x.leaves("judge(2, 512)", NONE).leaves("judge(2, 513)", 1);
        twelveInAFlood(due).is("judge(1, 509)", NONE).is("judge(4, 509)", NONE);
    }

    @Edge(promise = 21, says = "6, 0, a STRAND: it LIES in THE BED")
    static void judgeThatItLies(Due due) {
        Asked x = Asked.rich(due);
        x.leaves("judge(1, 601)", NONE).leaves("judge(1, 600)", 0).leaves("judge(1, 603)", 0);
        x.leaves("judge(1, 604)", 0).leaves("judge(1, 609)", 0).now("bed(0, 0)").leaves("judge(1, 601)", 0);
        x.now("bed(3, 412)").is("judge(1, 601)", NONE).now("bed(2, 41)").is("judge(1, 601)", 0);
        x.is("judge(2, 301601)", NONE);
    }

    @Edge(promise = 21, says = "the place of the first that can not be")
    static void judgeWhatIsNoDoing(Due due) {
        Asked x = Asked.rich(due);
        x.leaves("judge(1, 700)", 0).leaves("judge(1, 999)", 0).leaves("judge(2, 800)", 1);
    }

    @Edge(promise = 21, says = "(0, 0, 0: A WINTER")
    static void judgeWhereAZeroIsToldAndAnotherFigureStands(Due due) {
        Asked x = Asked.rich(due);
        x.leaves("judge(1, 1)", 0).leaves("judge(1, 10)", 0).leaves("judge(1, 90)", 0);
        x.leaves("judge(1, 210)", 0).leaves("judge(1, 311)", 0).leaves("judge(1, 611)", 0);
    }

    @Edge(promise = 21, says = "In what follows nothing is changed.")
    static void judgeChangesNothing(Due due) {
        Asked x = Asked.rich(due);
        x.leaves("judge(4, 103201302000)", NONE).leaves("judge(4, 412000102201)", NONE).is("count(4)", 1);
    }
}
