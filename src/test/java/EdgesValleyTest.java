/** Promises 1 to 8, the valley: least and most, empty and full, and what is refused. */
public final class EdgesValleyTest {
    private static final int UNKNOWN = -1, OUTSIDE = -2, STATE = -3, FULL = -4, NONE = -9;
    /** Four strands of six bends, 37 letters: no valley is longer. */
    private static final String LONGEST = "TS00abcdabS11bcdabcS22cdabcdS33dabcda";

    private EdgesValleyTest() {
    }

    public static void main(String[] args) {
        Edges.run(EdgesValleyTest.class);
    }

    // ---- 1 a new object

    @Edge(promise = 1, says = "No strands")
    static void newHasNoStrands(Due due) {
        Asked x = new Asked(due);
        x.is("count(1)", 0).is("count(2)", 0).is("count(3)", 0).is("count(6)", 0);
        for (int strand = -1; strand <= 4; strand++) {
            x.is("strand(" + strand + ", 0)", UNKNOWN).is("bends(" + strand + ")", UNKNOWN);
        }
    }

    @Edge(promise = 1, says = "no bed.")
    static void newHasNoBed(Due due) {
        new Asked(due).is("count(5)", 0).is("covered()", 0).is("bed(12, 123412341234)", 0);
    }

    @Edge(promise = 1, says = "At first there are no STRANDS, THE BED is empty.")
    static void newIsAllCoveredAsThereIsNothing(Due due) {
        Asked x = new Asked(due);
        x.is("ways()", 1).is("lost(5, true)", 1).is("lost(5, false)", 1).is("river(0)", 0).is("river(1)", 0);
    }

    @Edge(promise = 1, says = "THE TEXT is letters (48 at most).")
    static void newTextIsEmpty(Due due) {
        new Asked(due).is("count(0)", 0).is("fault()", 0).is("wipe()", 0);
    }

    @Edge(promise = 1, says = "6 such at most, none at first.")
    static void newHasNothingLaid(Due due) {
        new Asked(due).is("count(8)", 0).is("which(0)", 84).is("unlay()", 0);
    }

    @Edge(promise = 1, says = "0 at first")
    static void newSeedIsZero(Due due) {
        new Asked(due).is("seed(5)", 0).is("seed(0)", 5);
    }

    @Edge(promise = 1, says = "No strands")
    static void newHasNoActsAndNothingKept(Due due) {
        Asked x = new Asked(due);
        x.is("count(7)", 0).is("count(4)", 0).is("undo()", STATE).is("again(0)", STATE).is("again(1)", STATE);
    }

    @Edge(promise = 1, says = "No strands, no bed.")
    static void newIsApartFromOthers(Due due) {
        Asked old = Asked.rich(due);
        Asked x = new Asked(due);
        for (int what = 0; what <= 8; what++) {
            x.is("count(" + what + ")", 0);
        }
        x.write("T").now("valley()", "bed(1, 1)", "unlay()", "seed(3)", "keep(0)", "winter()");
        old.is("count(1)", 4).is("count(5)", 12).is("count(8)", 2).is("count(7)", 4).is("seed(0)", 77);
    }

    @Edge(promise = 1, says = "An object is used for at most 512 calls after it has been made")
    static void the512thCallIsAnswered(Due due) {
        Asked x = new Asked(due);
        x.times(511, "winter()").is("count(4)", 511);
        due.is("calls", x.calls(), 512);
    }

    @Edge(promise = 1, says = "An object is used for at most 512 calls after it has been made")
    static void theRowOfActsHoldsToThe512thCall(Due due) {
        Asked x = new Asked(due);
        x.times(497, "winter()");
        for (int left = 13; left >= 0; left--) {
            x.is("undo()", left);
        }
        x.is("count(4)", 483);
        due.is("calls", x.calls(), 512);
    }

    // ---- 2 write

    @Edge(promise = 2, says = "A letter (0 to 255)")
    static void letterZero(Due due) {
        new Asked(due).is("write(0)", 1).is("count(0)", 1).is("fault()", 0);
    }

    @Edge(promise = 2, says = "A letter (0 to 255)")
    static void letter255(Due due) {
        new Asked(due).is("write(255)", 1).is("count(0)", 1).is("fault()", 0);
    }

    @Edge(promise = 2, says = "OUTSIDE; FULL: there are 48.")
    static void letterBelowZero(Due due) {
        Asked.rich(due).leaves("write(-1)", OUTSIDE).leaves("write(MIN)", OUTSIDE);
        new Asked(due).leaves("write(-1)", OUTSIDE).is("count(0)", 0);
    }

    @Edge(promise = 2, says = "OUTSIDE; FULL: there are 48.")
    static void letterAbove255(Due due) {
        Asked.rich(due).leaves("write(256)", OUTSIDE).leaves("write(MAX)", OUTSIDE);
        new Asked(due).leaves("write(256)", OUTSIDE).is("count(0)", 0);
    }

    @Edge(promise = 2, says = "A letter (0 to 255)")
    static void noLetterIsTakenForAnotherByItsLowBits(Due due) {
        // 84 is T: 84 and 256 is refused, 84 and 128 is another letter.
        new Asked(due).is("write(340)", OUTSIDE).is("write(-172)", OUTSIDE).is("write(212)", 1).is("fault()", 0);
    }

    @Edge(promise = 2, says = "THE TEXT: how long it is.")
    static void lengthsFrom1To48(Due due) {
        Asked x = new Asked(due);
        for (int n = 1; n <= 48; n++) {
            x.is("write(84)", n);
        }
        x.is("count(0)", 48);
    }

    @Edge(promise = 2, says = "FULL: there are 48.")
    static void the49thLetter(Due due) {
        Asked x = new Asked(due).write(LONGEST).times(10, "write(83)");
        x.is("count(0)", 47).is("write(83)", 48).leaves("write(83)", FULL).leaves("write(0)", FULL);
        x.is("fault()", 37).is("count(0)", 48);
    }

    @Edge(promise = 2, says = "REFUSALS, of several the first that a call names")
    static void outsideComesBeforeFull(Due due) {
        Asked x = new Asked(due).times(48, "write(84)");
        x.leaves("write(256)", OUTSIDE).leaves("write(-1)", OUTSIDE).is("write(255)", FULL);
    }

    @Edge(promise = 2, says = "comes behind THE TEXT")
    static void whatIsWrittenComesLast(Due due) {
        Asked x = new Asked(due).write("TS12");
        x.is("write(100)", 5).is("write(97)", 6).is("valley()", 1).is("bends(0)", 41).is("strand(0, 0)", 1);
    }

    @Edge(promise = 2, says = "THE TEXT: how long it is.")
    static void writeLeavesTheValleyUntilItIsMade(Due due) {
        Asked x = Asked.told(due, "TS00ab");
        x.is("write(99)", 7).is("bends(0)", 12).is("valley()", 1).is("bends(0)", 123);
    }

    // ---- 3 wipe

    @Edge(promise = 3, says = "THE TEXT is empty: how long it was.")
    static void wipeOfNothing(Due due) {
        new Asked(due).is("wipe()", 0).is("wipe()", 0).is("count(0)", 0);
    }

    @Edge(promise = 3, says = "THE TEXT is empty: how long it was.")
    static void wipeOfOneLetter(Due due) {
        new Asked(due).is("write(84)", 1).is("wipe()", 1).is("wipe()", 0);
    }

    @Edge(promise = 3, says = "THE TEXT is empty: how long it was.")
    static void wipeOf48AndWriteAgain(Due due) {
        Asked x = new Asked(due).times(48, "write(0)");
        x.is("wipe()", 48).is("count(0)", 0).is("fault()", 0);
        for (int n = 1; n <= 48; n++) {
            x.is("write(84)", n);
        }
        x.is("write(84)", FULL);
    }

    @Edge(promise = 3, says = "THE TEXT is empty: how long it was.")
    static void wipeForgetsWhatStoodBehind(Due due) {
        Asked x = Asked.told(due, LONGEST);
        x.is("wipe()", 37).write("TS00a").is("fault()", NONE).is("valley()", 1).is("bends(0)", 1);
        x.is("wipe()", 5).write("T").is("valley()", 0);
    }

    @Edge(promise = 3, says = "THE TEXT is empty: how long it was.")
    static void wipeLeavesAllElse(Due due) {
        Asked x = Asked.rich(due);
        x.is("wipe()", 10).is("count(0)", 0).is("count(1)", 4).is("count(2)", 7).is("count(4)", 1).is("count(5)", 12);
        x.is("count(7)", 4).is("count(8)", 2).is("bends(1)", 412).is("again(0)", 0).is("seed(0)", 77);
    }

    // ---- 4 fault

    private static void faultOf(Due due, String text, int want) {
        Asked x = new Asked(due).write(text);
        x.leaves("fault()", want);
        x.is("fault()", want);
        boolean refused = x.ask("valley()") == STATE;
        due.is("whether valley() of '" + text + "' is refused", refused ? 1 : 0, want == NONE ? 0 : 1);
    }

    @Edge(promise = 4, says = "its length, if it is only not at its end; NONE: none.")
    static void emptyText(Due due) {
        faultOf(due, "", 0);
    }

    @Edge(promise = 4, says = "A VALLEY is a TEXT: T, then STRANDS, none or more")
    static void tAlone(Due due) {
        faultOf(due, "T", NONE);
    }

    @Edge(promise = 4, says = "A VALLEY is a TEXT: T, then STRANDS")
    static void anotherFirstLetter(Due due) {
        for (String text : new String[] {"S", "U", "t", "a", "0", " T", "S00a", "\0", "\u00d4"}) {
            faultOf(due, text, 0);
        }
    }

    @Edge(promise = 4, says = "T, then STRANDS, none or more (4 at most)")
    static void anotherLetterThanSBehindT(Due due) {
        for (String text : new String[] {"TT", "TR", "Ts", "Ta", "T0", "T ", "T\u00d3"}) {
            faultOf(due, text, 1);
        }
    }

    @Edge(promise = 4, says = "(4 at most), numbered as they are told")
    static void fourStrandsAndAFifth(Due due) {
        faultOf(due, "TS00aS01bS02c", NONE);
        faultOf(due, "TS00aS01bS02cS03d", NONE);
        faultOf(due, "TS00aS01bS02cS03dS", 17);
        faultOf(due, "TS00aS01bS02cS03dS00a", 17);
    }

    @Edge(promise = 4, says = "a STRAND in HOUSE h (0 to 3)")
    static void housesZeroToThree(Due due) {
        for (char house = '0'; house <= '3'; house++) {
            faultOf(due, "TS" + house, 3);
            faultOf(due, "TS" + house + "0a", NONE);
        }
        for (String wrong : new String[] {"/", "4", "9", "a", "S", "\0", "\u00b0"}) {
            faultOf(due, "TS" + wrong + "0a", 2);
        }
    }

    @Edge(promise = 4, says = "of KIND k: 0 PLAIN, 1 THIN, 2 CORDED, 3 FLOOD")
    static void kindsZeroToThree(Due due) {
        for (char kind = '0'; kind <= '3'; kind++) {
            faultOf(due, "TS3" + kind, 4);
            faultOf(due, "TS3" + kind + "d", NONE);
        }
        for (String wrong : new String[] {"/", "4", "9", "a", "S", "\0", "\u00b3"}) {
            faultOf(due, "TS3" + wrong + "d", 3);
        }
    }

    @Edge(promise = 4, says = "Shk and 1 to 6 BENDS")
    static void noBend(Due due) {
        faultOf(due, "TS00", 4);
        faultOf(due, "TS00S", 4);
        faultOf(due, "TS00S11a", 4);
        faultOf(due, "TS00aS11", 8);
        faultOf(due, "TS00aS11S", 8);
    }

    @Edge(promise = 4, says = "Shk and 1 to 6 BENDS")
    static void oneBendToSixAndASeventh(Due due) {
        String bends = "abcdab";
        for (int n = 1; n <= 6; n++) {
            faultOf(due, "TS00" + bends.substring(0, n), NONE);
        }
        faultOf(due, "TS00abcdaba", 10);
        faultOf(due, "TS00abcdabS33abcdab", NONE);
        faultOf(due, "TS00abcdabS33abcdabd", 19);
    }

    @Edge(promise = 4, says = "each a letter a to d")
    static void lettersOfBends(Due due) {
        for (char bend = 'a'; bend <= 'd'; bend++) {
            faultOf(due, "TS00" + bend, NONE);
            faultOf(due, "TS00" + bend + bend, NONE);
        }
        for (String wrong : new String[] {"`", "e", "A", "D", "1", "T", "\u00e1"}) {
            faultOf(due, "TS00" + wrong, 4);
            faultOf(due, "TS00a" + wrong, 5);
        }
    }

    @Edge(promise = 4, says = "its length, if it is only not at its end")
    static void notAtItsEnd(Due due) {
        String told = "TS12aS30b";
        int[] want = {0, NONE, 2, 3, 4, NONE, 6, 7, 8, NONE};
        for (int n = 0; n <= told.length(); n++) {
            faultOf(due, told.substring(0, n), want[n]);
        }
    }

    @Edge(promise = 4, says = "the place of the first letter by which THE TEXT can be no VALLEY, "
        + "whatever came behind it")
    static void theFirstOfSeveralFaults(Due due) {
        faultOf(due, "XXX", 0);
        faultOf(due, "TS4", 2);
        faultOf(due, "TS49e", 2);
        faultOf(due, "TS09e", 3);
        faultOf(due, "TS00eS00a", 4);
        faultOf(due, "TS00aTS00a", 5);
    }

    @Edge(promise = 4, says = "(its length set aside)")
    static void theLongestValleyAndATextOf48(Due due) {
        faultOf(due, LONGEST, NONE);
        faultOf(due, LONGEST.substring(0, 36), NONE);
        faultOf(due, LONGEST + "a", 37);
        faultOf(due, LONGEST + "S", 37);
        faultOf(due, LONGEST + "T", 37);
        faultOf(due, LONGEST + "SSSSSSSSSSS", 37);
    }

    @Edge(promise = 4, says = "NONE is -9.")
    static void noneIsMinusNine(Due due) {
        due.is("NONE", TinselRiver.NONE, -9);
        new Asked(due).write("T").is("fault()", -9).write("S").is("fault()", 2).write("00aS").is("fault()", 6);
    }

    @Edge(promise = 4, says = "FAULT; NONE.")
    static void faultChangesNothing(Due due) {
        Asked.rich(due).leaves("fault()", NONE).write("X").leaves("fault()", 10);
    }

    @Edge(promise = 4, says = "FAULT; NONE.")
    static void faultIsOfTheTextAndNotOfTheValley(Due due) {
        Asked x = Asked.told(due, "TS00a");
        x.now("hang(0, 1)", "winter()").is("fault()", NONE).is("wipe()", 5).is("fault()", 0);
    }

    // ---- 5 valley

    @Edge(promise = 5, says = "STATE: a FAULT.")
    static void valleyOfNoText(Due due) {
        new Asked(due).leaves("valley()", STATE);
        Asked.rich(due).now("wipe()").leaves("valley()", STATE).is("count(1)", 4);
    }

    @Edge(promise = 5, says = "STATE: a FAULT.")
    static void valleyOfATextThatIsNotAtItsEnd(Due due) {
        Asked x = Asked.rich(due);
        x.rewrite("TS").leaves("valley()", STATE).rewrite("TS00").leaves("valley()", STATE).is("bends(1)", 412);
        x.is("write(97)", 5).is("valley()", 1).is("bends(1)", UNKNOWN);
    }

    @Edge(promise = 5, says = "STATE: a FAULT.")
    static void valleyOfAWrongLetter(Due due) {
        Asked x = Asked.rich(due);
        x.write("X").leaves("valley()", STATE).is("count(7)", 4).is("again(0)", 0).is("count(1)", 4);
    }

    @Edge(promise = 5, says = "THE TEXT is THE VALLEY")
    static void valleyOfNone(Due due) {
        Asked x = Asked.rich(due).rewrite("T");
        x.is("valley()", 0).is("count(1)", 0).is("count(2)", 0).is("count(3)", 0).is("count(6)", 0);
        x.is("bends(0)", UNKNOWN).is("river(1)", 0).is("winter()", 0);
    }

    @Edge(promise = 5, says = "(4 at most), numbered as they are told")
    static void valleyOfFourOfSix(Due due) {
        Asked x = Asked.told(due, LONGEST);
        x.is("valley()", 4).is("count(1)", 4).is("count(2)", 15).is("count(3)", 24).is("count(6)", 15);
        x.is("bends(0)", 123412).is("bends(1)", 234123).is("bends(2)", 341234).is("bends(3)", 412341);
        for (int strand = 0; strand < 4; strand++) {
            x.is("strand(" + strand + ", 0)", strand).is("strand(" + strand + ", 1)", strand);
        }
    }

    @Edge(promise = 5, says = "how many STRANDS.")
    static void valleyOfEachNumber(Due due) {
        Asked x = new Asked(due).write("T");
        for (int n = 0; n <= 4; n++) {
            x.is("valley()", n).is("count(1)", n).is("bends(" + n + ")", UNKNOWN);
            x.write("S00a");
        }
        x.is("valley()", STATE).is("count(1)", 4);
    }

    @Edge(promise = 5, says = "THE TEXT is THE VALLEY")
    static void aSmallerValleyHasNothingOfTheLargerOne(Due due) {
        Asked x = Asked.told(due, LONGEST).rewrite("TS20d");
        x.is("valley()", 1).is("bends(0)", 4).is("strand(0, 0)", 2).is("strand(0, 1)", 0).is("count(3)", 1);
        for (int strand = 1; strand < 4; strand++) {
            x.is("strand(" + strand + ", 0)", UNKNOWN);
        }
        x.is("winter()", 0).is("covered()", 0).is("river(1)", 1).is("hang(0, 1)", 1);
    }

    @Edge(promise = 5, says = "(THE ROW of ACTS is empty, what was kept is gone; LAID, THE SEED, THE BED stay)")
    static void valleyEmptiesTheRowOfActs(Due due) {
        Asked x = Asked.rich(due);
        x.is("count(7)", 4).is("valley()", 2).is("count(7)", 0).is("undo()", STATE).is("turn(0)", 3).is("undo()", 0);
    }

    @Edge(promise = 5, says = "what was kept is gone")
    static void valleyLetsGoOfBothSlots(Due due) {
        Asked x = Asked.rich(due).now("keep(1)");
        x.is("valley()", 2).is("again(0)", STATE).is("again(1)", STATE).is("keep(1)", 0).is("again(0)", STATE);
    }

    @Edge(promise = 5, says = "LAID, THE SEED, THE BED stay")
    static void valleyLeavesLaidSeedAndBed(Due due) {
        Asked x = Asked.rich(due);
        x.is("which(0)", 3).is("valley()", 2).is("count(8)", 2).is("which(0)", 3).is("which(1)", 4);
        x.is("count(5)", 12).is("strand(0, 3)", 2).is("seed(0)", 77);
    }

    @Edge(promise = 5, says = "all STRANDS are as told, none is GONE, THE YEAR is 0 (THE BED stays).")
    static void valleyOfTheSameTextIsAsTold(Due due) {
        Asked x = Asked.told(due, "TS00aS00bcS00cd");
        x.now("hang(2, 3)", "hang(2, 0)", "winter()", "turn(1)", "snip(2)", "hang(1, 2)");
        x.is("count(2)", 6).is("count(4)", 1).is("valley()", 3).is("count(2)", 7).is("count(4)", 0);
        x.is("bends(0)", 1).is("bends(1)", 23).is("bends(2)", 34).is("count(6)", 1);
    }

    @Edge(promise = 5, says = "THE TEXT is THE VALLEY")
    static void valleyLeavesTheText(Due due) {
        Asked x = Asked.rich(due);
        x.is("valley()", 2).is("count(0)", 10).is("fault()", NONE).is("wipe()", 10);
    }

    // ---- 6 bed

    @Edge(promise = 6, says = "THE BED is n BENDS (0 to 12)")
    static void bedOfEachLength(Due due) {
        Asked x = Asked.told(due, "TS00dS00a");
        long row = 0;
        for (int n = 1; n <= 12; n++) {
            row = 10 * row + (n < 12 ? 1 : 4);
            x.is("bed(" + n + ", " + row + ")", n - 1).is("count(5)", n);
        }
        x.is("strand(0, 3)", 11).is("covered()", 4095);
    }

    @Edge(promise = 6, says = "OUTSIDE: n, row.")
    static void bedOfMinusOneAndOf13(Due due) {
        Asked x = Asked.rich(due);
        x.leaves("bed(-1, 0)", OUTSIDE).leaves("bed(13, 1111111111111)", OUTSIDE).leaves("bed(13, 0)", OUTSIDE);
        x.leaves("bed(13, 111111111111)", OUTSIDE).leaves("bed(MIN, 0)", OUTSIDE).leaves("bed(MAX, 1)", OUTSIDE);
        x.is("bed(0, 0)", 12);
    }

    @Edge(promise = 6, says = "(n 0: row 0)")
    static void bedOfNone(Due due) {
        Asked x = Asked.rich(due);
        x.leaves("bed(0, 1)", OUTSIDE).leaves("bed(0, -1)", OUTSIDE).leaves("bed(0, MAX)", OUTSIDE);
        x.is("count(5)", 12).is("bed(0, 0)", 12).is("bed(0, 0)", 0).is("covered()", 0).is("which(1)", NONE);
    }

    @Edge(promise = 6, says = "told as n figures 1 to 4")
    static void figuresOneToFour(Due due) {
        Asked x = new Asked(due).now("lay(0, 1)");
        for (int figure = 1; figure <= 4; figure++) {
            x.is("bed(1, " + figure + ")", figure == 1 ? 0 : 1).is("which(1)", figure);
        }
        x.is("bed(1, 0)", OUTSIDE).is("bed(1, 5)", OUTSIDE).is("bed(1, 9)", OUTSIDE).is("which(1)", 4);
    }

    @Edge(promise = 6, says = "told as n figures 1 to 4")
    static void aWrongFigureAtEachPlace(Due due) {
        Asked x = Asked.told(due, "TS00a").now("bed(3, 441)");
        long place = 1;
        for (int i = 0; i < 12; i++) {
            // 111111111111 with a 0, or with a 5, at that place.
            x.is("bed(12, " + (111111111111L - place) + ")", OUTSIDE);
            x.is("bed(12, " + (111111111111L + 4 * place) + ")", OUTSIDE);
            x.is("strand(0, 3)", 2);
            place *= 10;
        }
        x.is("bed(12, 111111111111)", 3).is("bed(12, 444444444444)", 12);
    }

    @Edge(promise = 6, says = "told as n figures 1 to 4")
    static void oneFigureTooFewOrTooMany(Due due) {
        Asked x = Asked.rich(due);
        x.leaves("bed(2, 1)", OUTSIDE).leaves("bed(2, 111)", OUTSIDE).leaves("bed(1, 11)", OUTSIDE);
        x.leaves("bed(12, 11111111111)", OUTSIDE).leaves("bed(12, 1111111111111)", OUTSIDE);
        x.is("bed(2, 11)", 12);
    }

    @Edge(promise = 6, says = "OUTSIDE: n, row.")
    static void rowsThatAreNoFigures(Due due) {
        Asked x = Asked.rich(due);
        x.leaves("bed(3, -123)", OUTSIDE).leaves("bed(1, -1)", OUTSIDE).leaves("bed(12, MIN)", OUTSIDE);
        x.leaves("bed(12, MAX)", OUTSIDE).leaves("bed(1, 4294967297)", OUTSIDE).is("count(5)", 12);
    }

    @Edge(promise = 6, says = "how many it had.")
    static void aShorterBedHasNothingOfTheLongerOne(Due due) {
        Asked x = Asked.told(due, "TS00abS00d");
        x.is("bed(12, 444444444412)", 0).is("bed(3, 123)", 12).is("covered()", 3).is("strand(1, 3)", NONE);
        x.is("bed(1, 1)", 3).is("strand(0, 3)", NONE).is("bed(0, 0)", 1).is("covered()", 0);
    }

    @Edge(promise = 6, says = "THE BED is a row of 0 to 12 BENDS, told by a call; it is changed by nothing else.")
    static void nothingElseChangesTheBed(Due due) {
        Asked x = Asked.told(due, "TS00abS00cdS00aS10a").now("bed(3, 123)", "keep(0)");
        x.now("turn(0)", "snip(1)", "hang(0, 1)", "hang(0, 0)", "join(0, 2)", "winter()", "undo()", "undo()");
        x.is("count(5)", 3).now("bed(2, 41)", "again(0)").is("count(5)", 2).now("valley()", "unlay()", "wipe()");
        x.is("count(5)", 2).is("covered()", 2).is("undo()", STATE).is("bed(0, 0)", 2);
    }

    @Edge(promise = 6, says = "ACTS (WINTERS, HUNG, TURNED, SNIPPED, JOINED) are a row")
    static void bedIsNoAct(Due due) {
        Asked x = Asked.rich(due);
        x.is("bed(2, 12)", 12).is("count(7)", 4).is("undo()", 3).is("count(5)", 2);
    }

    // ---- 7 strand

    @Edge(promise = 7, says = "UNKNOWN; OUTSIDE.")
    static void strandThatIsNone(Due due) {
        Asked x = Asked.told(due, "TS00abS33cd");
        for (String strand : new String[] {"-1", "2", "3", "4", "MIN", "MAX"}) {
            x.leaves("strand(" + strand + ", 0)", UNKNOWN);
        }
        x.is("strand(0, 0)", 0).is("strand(1, 0)", 3);
    }

    @Edge(promise = 7, says = "there is no such STRAND (a GONE one is none)")
    static void strandThatIsGone(Due due) {
        Asked x = Asked.rich(due);
        for (int what = 0; what < 4; what++) {
            x.leaves("strand(3, " + what + ")", UNKNOWN);
        }
        x.now("undo()", "undo()").is("strand(3, 0)", 1).is("strand(3, 1)", 2);
    }

    @Edge(promise = 7, says = "UNKNOWN; OUTSIDE.")
    static void strandWhatMinusOneAndFour(Due due) {
        Asked x = Asked.rich(due);
        x.leaves("strand(0, -1)", OUTSIDE).leaves("strand(0, 4)", OUTSIDE);
        x.leaves("strand(0, MIN)", OUTSIDE).leaves("strand(0, MAX)", OUTSIDE);
        x.leaves("strand(0, 0)", 0).leaves("strand(0, 3)", NONE);
    }

    @Edge(promise = 7, says = "UNKNOWN; OUTSIDE.")
    static void strandUnknownComesBeforeOutside(Due due) {
        Asked.rich(due).leaves("strand(3, 4)", UNKNOWN).leaves("strand(4, -1)", UNKNOWN).is("strand(-1, 9)", UNKNOWN);
    }

    @Edge(promise = 7, says = "its HOUSE (what = 0), KIND (1)")
    static void housesAndKindsFromZeroToThree(Due due) {
        Asked x = Asked.told(due, "TS03aS12aS21aS30a");
        for (int strand = 0; strand < 4; strand++) {
            x.is("strand(" + strand + ", 0)", strand).is("strand(" + strand + ", 1)", 3 - strand);
        }
        x.now("hang(0, 3)").is("strand(0, 0)", 3).is("strand(0, 1)", 3);
    }

    @Edge(promise = 7, says = "how many BENDS it has (2)")
    static void bendsFromOneToTwelve(Due due) {
        Asked x = Asked.told(due, "TS00aS00abcdabS00cdcdcd");
        x.is("strand(0, 2)", 1).is("strand(1, 2)", 6).now("join(1, 2)").is("strand(1, 2)", 12);
        x.is("strand(2, 2)", UNKNOWN);
    }

    @Edge(promise = 7, says = "LIES of a STRAND: the first place of THE BED (from 0) from which on "
        + "its BENDS are as those of THE BED; NONE.")
    static void liesFirstAndLast(Due due) {
        Asked x = Asked.told(due, "TS00abS10cdS20ddS30abcd");
        x.now("bed(12, 123333333344)");
        x.is("strand(0, 3)", 0).is("strand(1, 3)", 9).is("strand(2, 3)", 10).is("strand(3, 3)", NONE);
        x.now("bed(12, 444444444412)").is("strand(0, 3)", 10).is("strand(2, 3)", 0);
    }

    @Edge(promise = 7, says = "the first place of THE BED (from 0) from which on its BENDS are as "
        + "those of THE BED; NONE.")
    static void liesAtTheFirstOfSeveral(Due due) {
        Asked x = Asked.told(due, "TS00aaS10ab");
        x.now("bed(6, 211112)").is("strand(0, 3)", 1).is("strand(1, 3)", 4).now("bed(4, 1212)").is("strand(1, 3)", 0);
    }

    @Edge(promise = 7, says = "LIES (3; NONE)")
    static void liesInABedAsLongAndInAShorterOne(Due due) {
        Asked x = Asked.told(due, "TS00abc").now("bed(3, 123)").is("strand(0, 3)", 0);
        x.now("bed(2, 12)").leaves("strand(0, 3)", NONE).now("bed(4, 4412)").is("strand(0, 3)", NONE);
        x.now("bed(5, 44123)").is("strand(0, 3)", 2).now("bed(0, 0)").leaves("strand(0, 3)", NONE);
    }

    @Edge(promise = 7, says = "LIES (3; NONE)")
    static void liesWithTwelveBends(Due due) {
        Asked x = Asked.told(due, "TS00abcdabS00cdcdcd").now("join(0, 1)");
        x.now("bed(12, 123412343434)").is("strand(0, 3)", 0).now("bed(12, 123412343431)").is("strand(0, 3)", NONE);
        x.now("bed(11, 12341234343)").is("strand(0, 3)", NONE).now("bed(11, 23412343434)").is("strand(0, 3)", NONE);
    }

    // ---- 8 bends

    @Edge(promise = 8, says = "BENDS are four: a, b, c, d, told as figures 1, 2, 3, 4.")
    static void bendsOfOneAndOfSix(Due due) {
        Asked x = Asked.told(due, "TS00aS00dS00abcdabS00dddddd");
        x.is("bends(0)", 1).is("bends(1)", 4).is("bends(2)", 123412).is("bends(3)", 444444);
    }

    @Edge(promise = 8, says = "Its BENDS as figures.")
    static void bendsOfTwelveAreMoreThanAnInt(Due due) {
        Asked x = Asked.told(due, "TS00ccccccS00dddddd").now("join(1, 0)");
        x.leaves("bends(1)", 444444333333L).now("turn(1)").is("bends(1)", 333333444444L);
    }

    @Edge(promise = 8, says = "Its BENDS as figures. UNKNOWN.")
    static void bendsOfNoStrand(Due due) {
        Asked x = Asked.rich(due);
        for (String strand : new String[] {"-1", "3", "4", "MIN", "MAX"}) {
            x.leaves("bends(" + strand + ")", UNKNOWN);
        }
        x.leaves("bends(0)", 214321).now("undo()", "undo()").is("bends(3)", 12);
        Asked.told(due, "TS00a").is("bends(0)", 1).is("bends(1)", UNKNOWN);
    }
}
