/** For each promise ordinary inputs, the edges that the document names, and wrong inputs. */
public final class PromiseTest {
    private static final int UNKNOWN = -1, OUTSIDE = -2, STATE = -3, FULL = -4, NONE = -9;
    private static final int MIN = Integer.MIN_VALUE, MAX = Integer.MAX_VALUE;
    private static final Due DUE = new Due();

    public static void main(String[] args) {
        newObject();
        write();
        wipe();
        fault();
        valley();
        valleyThatIsRefused();
        bed();
        strand();
        bends();
        winter();
        winterOfFloods();
        hang();
        turn();
        snip();
        join();
        undo();
        later();
        lasts();
        overlap();
        river();
        covered();
        ways();
        judge();
        judgeWhatCanNotBe();
        lay();
        unlay();
        which();
        share();
        rests();
        lost();
        seed();
        years();
        keep();
        again();
        count();
        DUE.close();
    }

    private static void newObject() {
        DUE.about("1 new object");
        TinselRiver x = new TinselRiver();
        for (int what = 0; what <= 8; what++) {
            DUE.is("count(" + what + ")", x.count(what), 0);
        }
        DUE.is("fault()", x.fault(), 0);
        DUE.is("strand(0, 0)", x.strand(0, 0), UNKNOWN);
        DUE.is("undo()", x.undo(), STATE);
        DUE.is("again(0)", x.again(0), STATE);
        DUE.is("again(1)", x.again(1), STATE);
        DUE.is("which(0)", x.which(0), 84);
        DUE.is("ways()", x.ways(), 1);
        DUE.is("seed(0)", x.seed(0), 0);
        DUE.is("bed(0, 0)", x.bed(0, 0), 0);
        TinselRiver other = Due.told("TS00abc");
        DUE.is("count(1) of one beside another", x.count(1), 0);
        DUE.is("count(1) of the other", other.count(1), 1);
    }

    private static void write() {
        DUE.about("2 write");
        TinselRiver x = new TinselRiver();
        DUE.is("write(-1)", x.write(-1), OUTSIDE);
        DUE.is("write(256)", x.write(256), OUTSIDE);
        DUE.is("write(MIN)", x.write(MIN), OUTSIDE);
        DUE.is("write(MAX)", x.write(MAX), OUTSIDE);
        DUE.is("count(0)", x.count(0), 0);
        DUE.is("write(0)", x.write(0), 1);
        DUE.is("write(255)", x.write(255), 2);
        for (int n = 3; n <= 48; n++) {
            DUE.is("write('T')", x.write('T'), n);
        }
        DUE.is("write('T') of the 49th", x.write('T'), FULL);
        DUE.is("write(256) of the 49th", x.write(256), OUTSIDE);
        DUE.is("count(0) when full", x.count(0), 48);
    }

    private static void wipe() {
        DUE.about("3 wipe");
        TinselRiver x = Due.told("TS00abc");
        DUE.is("wipe()", x.wipe(), 7);
        DUE.is("wipe() again", x.wipe(), 0);
        DUE.is("count(0)", x.count(0), 0);
        DUE.is("fault()", x.fault(), 0);
        DUE.is("bends(0) after the text is gone", x.bends(0), 123);
        DUE.is("write('T')", x.write('T'), 1);
        DUE.is("fault() of T", x.fault(), NONE);
    }

    private static void faultOf(String text, int want) {
        TinselRiver x = new TinselRiver();
        Due.write(x, text);
        DUE.is("fault() of '" + text + "'", x.fault(), want);
        DUE.is("fault() of '" + text + "' again", x.fault(), want);
        DUE.is("valley() of '" + text + "'", x.valley() == STATE ? 1 : 0, want == NONE ? 0 : 1);
    }

    private static void fault() {
        DUE.about("4 fault");
        faultOf("", 0);
        faultOf("T", NONE);
        faultOf("X", 0);
        faultOf("t", 0);
        faultOf("S", 0);
        faultOf("TT", 1);
        faultOf("Ta", 1);
        faultOf("T0", 1);
        faultOf("TS", 2);
        faultOf("TSS", 2);
        faultOf("TS4", 2);
        faultOf("TS/", 2);
        faultOf("TS0", 3);
        faultOf("TS04", 3);
        faultOf("TS0/", 3);
        faultOf("TS0a", 3);
        faultOf("TS00", 4);
        faultOf("TS00S", 4);
        faultOf("TS00e", 4);
        faultOf("TS00`", 4);
        faultOf("TS00A", 4);
        faultOf("TS001", 4);
        faultOf("TS00a", NONE);
        faultOf("TS33d", NONE);
        faultOf("TS00aX", 5);
        faultOf("TS00aT", 5);
        faultOf("TS00a0", 5);
        faultOf("TS00abcdab", NONE);
        faultOf("TS00abcdabc", 10);
        faultOf("TS00abcdabS", 11);
        faultOf("TS00aS", 6);
        faultOf("TS00aS0", 7);
        faultOf("TS00aS00", 8);
        faultOf("TS00aS01bS02cS03d", NONE);
        faultOf("TS00aS01bS02cS03dS", 17);
        faultOf("TS00aS01bS02cS03dT", 17);
        faultOf("TXS9", 1);
        String longest = "TS00abcdabS11abcdabS22abcdabS33abcdab";
        faultOf(longest, NONE);
        faultOf(longest + "a", 37);
        faultOf(longest + "SSSSSSSSSSS", 37);
    }

    private static void valley() {
        DUE.about("5 valley");
        TinselRiver x = Due.told("TS00abcS12dcS23aS31bcda");
        x.bed(4, 1234);
        x.lay(0, 1);
        x.seed(77);
        x.hang(0, 2);
        x.join(0, 2);
        x.winter();
        x.keep(0);
        x.keep(1);
        Due.write(x, "TS21dS13ab");
        DUE.is("count(1) before valley()", x.count(1), 4);
        DUE.is("valley()", x.valley(), 2);
        DUE.is("count(0), the text stays", x.count(0), 10);
        DUE.is("count(1)", x.count(1), 2);
        DUE.is("count(2)", x.count(2), 3);
        DUE.is("count(3)", x.count(3), 3);
        DUE.is("count(4)", x.count(4), 0);
        DUE.is("count(5)", x.count(5), 4);
        DUE.is("count(6)", x.count(6), 6);
        DUE.is("count(7)", x.count(7), 0);
        DUE.is("count(8)", x.count(8), 1);
        DUE.is("undo()", x.undo(), STATE);
        DUE.is("again(0)", x.again(0), STATE);
        DUE.is("again(1)", x.again(1), STATE);
        DUE.is("seed(0)", x.seed(0), 77);
        DUE.is("bends(0)", x.bends(0), 4);
        DUE.is("bends(1)", x.bends(1), 12);
        DUE.is("bends(2)", x.bends(2), UNKNOWN);
        DUE.is("strand(1, 1)", x.strand(1, 1), 3);
        x.snip(1);
        DUE.is("valley() of the same text", x.valley(), 2);
        DUE.is("bends(1) as told", x.bends(1), 12);
        Due.write(x, "T");
        DUE.is("valley() of T", x.valley(), 0);
        DUE.is("count(1)", x.count(1), 0);
        DUE.is("bends(0)", x.bends(0), UNKNOWN);
    }

    private static void valleyThatIsRefused() {
        TinselRiver x = Due.told("TS00abcS01cd");
        x.winter();
        x.keep(0);
        Due.write(x, "TS00");
        DUE.is("valley() of a fault", x.valley(), STATE);
        DUE.is("count(1)", x.count(1), 2);
        DUE.is("count(4)", x.count(4), 1);
        DUE.is("count(7)", x.count(7), 1);
        DUE.is("count(0)", x.count(0), 4);
        DUE.is("again(0)", x.again(0), 1);
    }

    private static void bed() {
        DUE.about("6 bed");
        TinselRiver x = Due.told("TS00abc");
        DUE.is("bed(4, 4123)", x.bed(4, 4123), 0);
        DUE.is("strand(0, 3)", x.strand(0, 3), 1);
        DUE.is("bed(-1, 0)", x.bed(-1, 0), OUTSIDE);
        DUE.is("bed(13, 1111111111111)", x.bed(13, 1111111111111L), OUTSIDE);
        DUE.is("bed(MIN, 0)", x.bed(MIN, 0), OUTSIDE);
        DUE.is("bed(MAX, 1)", x.bed(MAX, 1), OUTSIDE);
        DUE.is("bed(0, 1)", x.bed(0, 1), OUTSIDE);
        DUE.is("bed(0, -1)", x.bed(0, -1), OUTSIDE);
        DUE.is("bed(1, 0)", x.bed(1, 0), OUTSIDE);
        DUE.is("bed(1, 5)", x.bed(1, 5), OUTSIDE);
        DUE.is("bed(1, -1)", x.bed(1, -1), OUTSIDE);
        DUE.is("bed(1, 11)", x.bed(1, 11), OUTSIDE);
        DUE.is("bed(2, 1)", x.bed(2, 1), OUTSIDE);
        DUE.is("bed(3, 103)", x.bed(3, 103), OUTSIDE);
        DUE.is("bed(3, -123)", x.bed(3, -123), OUTSIDE);
        DUE.is("bed(3, 523)", x.bed(3, 523), OUTSIDE);
        DUE.is("bed(12, MIN)", x.bed(12, Long.MIN_VALUE), OUTSIDE);
        DUE.is("bed(12, MAX)", x.bed(12, Long.MAX_VALUE), OUTSIDE);
        DUE.is("bed(12, 13 figures)", x.bed(12, 1111111111111L), OUTSIDE);
        DUE.is("strand(0, 3), the bed is as it was", x.strand(0, 3), 1);
        DUE.is("count(5)", x.count(5), 4);
        DUE.is("bed(12, 444444444123)", x.bed(12, 444444444123L), 4);
        DUE.is("strand(0, 3)", x.strand(0, 3), 9);
        DUE.is("count(7), it is no act", x.count(7), 0);
        x.turn(0);
        DUE.is("bed(1, 3)", x.bed(1, 3), 12);
        x.undo();
        DUE.is("count(5), undo leaves the bed", x.count(5), 1);
        DUE.is("bed(0, 0)", x.bed(0, 0), 1);
        DUE.is("bed(0, 0)", x.bed(0, 0), 0);
    }

    private static void strand() {
        DUE.about("7 strand");
        TinselRiver x = Due.told("TS00abS12bcdaS31dS23cc");
        x.bed(9, 412341233);
        int[][] due = {{0, 0, 2, 1}, {1, 2, 4, 2}, {3, 1, 1, 0}, {2, 3, 2, 7}};
        for (int strand = 0; strand < 4; strand++) {
            for (int what = 0; what < 4; what++) {
                DUE.is("strand(" + strand + ", " + what + ")", x.strand(strand, what), due[strand][what]);
            }
        }
        DUE.is("strand(0, 4)", x.strand(0, 4), OUTSIDE);
        DUE.is("strand(0, -1)", x.strand(0, -1), OUTSIDE);
        DUE.is("strand(4, 0)", x.strand(4, 0), UNKNOWN);
        DUE.is("strand(-1, 0)", x.strand(-1, 0), UNKNOWN);
        DUE.is("strand(4, 9)", x.strand(4, 9), UNKNOWN);
        DUE.is("strand(MIN, MIN)", x.strand(MIN, MIN), UNKNOWN);
        x.bed(8, 41234123);
        DUE.is("strand(3, 3) that would lie beyond the bed", x.strand(3, 3), NONE);
        x.hang(2, 0);
        x.join(0, 2);
        DUE.is("strand(2, 0) of one that is gone", x.strand(2, 0), UNKNOWN);
        DUE.is("strand(0, 1), the kind stays", x.strand(0, 1), 0);
        x.bed(0, 0);
        DUE.is("strand(0, 3) in no bed", x.strand(0, 3), NONE);
        x.bed(1, 1);
        DUE.is("strand(0, 3) in a bed too short", x.strand(0, 3), NONE);
    }

    private static void bends() {
        DUE.about("8 bends");
        TinselRiver x = Due.told("TS00abcdabS00cdcdcdS00d");
        DUE.is("bends(0)", x.bends(0), 123412);
        DUE.is("bends(1)", x.bends(1), 343434);
        DUE.is("bends(2)", x.bends(2), 4);
        DUE.is("bends(3)", x.bends(3), UNKNOWN);
        DUE.is("bends(-1)", x.bends(-1), UNKNOWN);
        DUE.is("bends(MAX)", x.bends(MAX), UNKNOWN);
        x.join(0, 1);
        DUE.is("bends(0) of 12", x.bends(0), 123412343434L);
        DUE.is("bends(1), gone", x.bends(1), UNKNOWN);
    }

    private static void winter() {
        DUE.about("9 winter");
        TinselRiver x = Due.told("TS00abS00cdS10ab");
        DUE.is("winter() of two in a house", x.winter(), 0);
        DUE.is("count(3)", x.count(3), 6);
        DUE.is("count(4)", x.count(4), 1);
        // Each is looked at in its turn: when the first is gone, the others are two.
        x = Due.told("TS20aS20bcS20cd");
        DUE.is("winter() of three", x.winter(), 1);
        DUE.is("bends(0)", x.bends(0), UNKNOWN);
        DUE.is("bends(1)", x.bends(1), 23);
        DUE.is("bends(2)", x.bends(2), 34);
        // Plain ones lose the last, thin ones the last and the first, corded ones nothing.
        x = Due.told("TS10abcS11abcdS12abS10d");
        DUE.is("winter() of four", x.winter(), 1);
        DUE.is("bends(0)", x.bends(0), 12);
        DUE.is("bends(1)", x.bends(1), 23);
        DUE.is("bends(2)", x.bends(2), 12);
        DUE.is("bends(3)", x.bends(3), UNKNOWN);
        DUE.is("winter()", x.winter(), 1);
        DUE.is("bends(0)", x.bends(0), 1);
        DUE.is("bends(1), gone at both ends", x.bends(1), UNKNOWN);
        DUE.is("bends(2)", x.bends(2), 12);
        DUE.is("winter()", x.winter(), 0);
        DUE.is("bends(0)", x.bends(0), 1);
        DUE.is("count(4)", x.count(4), 3);
        DUE.is("count(7)", x.count(7), 3);
        x = Due.told("TS01aS02bS02c");
        DUE.is("winter() of a thin one with one bend", x.winter(), 1);
        x = new TinselRiver();
        DUE.is("winter() of none", x.winter(), 0);
        DUE.is("count(4)", x.count(4), 1);
    }

    private static void winterOfFloods() {
        // A flood takes the first bend, of corded ones and of floods too, and only in its house.
        TinselRiver x = Due.told("TS03abS02cdS03dcS13a");
        DUE.is("winter() of floods", x.winter(), 1);
        DUE.is("bends(0), flooded by strand 2", x.bends(0), 2);
        DUE.is("bends(1), flooded twice", x.bends(1), UNKNOWN);
        DUE.is("bends(2), flooded by strand 0", x.bends(2), 3);
        DUE.is("bends(3), elsewhere", x.bends(3), 1);
        // The first flood takes the second one before its turn comes.
        DUE.is("winter()", x.winter(), 1);
        DUE.is("bends(0)", x.bends(0), 2);
        DUE.is("bends(2)", x.bends(2), UNKNOWN);
        // A flood that comes first makes the house no crowd any more.
        x = Due.told("TS23aS20bcS20c");
        DUE.is("winter()", x.winter(), 1);
        DUE.is("bends(1)", x.bends(1), 3);
    }

    private static void hang() {
        DUE.about("10 hang");
        TinselRiver x = Due.told("TS00aS11abS12cd");
        DUE.is("hang(0, 1)", x.hang(0, 1), 3);
        DUE.is("strand(0, 0)", x.strand(0, 0), 1);
        DUE.is("hang(0, 1) again", x.hang(0, 1), STATE);
        DUE.is("hang(0, 4)", x.hang(0, 4), UNKNOWN);
        DUE.is("hang(0, -1)", x.hang(0, -1), UNKNOWN);
        DUE.is("hang(3, 0)", x.hang(3, 0), UNKNOWN);
        DUE.is("hang(-1, 0)", x.hang(-1, 0), UNKNOWN);
        DUE.is("hang(MIN, MAX)", x.hang(MIN, MAX), UNKNOWN);
        DUE.is("count(7)", x.count(7), 1);
        DUE.is("hang(0, 3)", x.hang(0, 3), 1);
        DUE.is("count(4), no winter", x.count(4), 0);
        x.hang(0, 1);
        x.winter();
        DUE.is("hang(0, 0) of one that is gone", x.hang(0, 0), UNKNOWN);
        DUE.is("hang(1, 2), the gone one does not count", x.hang(1, 2), 1);
        DUE.is("hang(1, 1), the gone one does not count", x.hang(1, 1), 2);
    }

    private static void turn() {
        DUE.about("11 turn");
        TinselRiver x = Due.told("TS00abcS00dabaS00c");
        DUE.is("turn(0)", x.turn(0), 3);
        DUE.is("bends(0)", x.bends(0), 321);
        DUE.is("turn(1)", x.turn(1), 1);
        DUE.is("bends(1)", x.bends(1), 1214);
        DUE.is("turn(2)", x.turn(2), 3);
        DUE.is("count(7)", x.count(7), 3);
        DUE.is("turn(3)", x.turn(3), UNKNOWN);
        DUE.is("turn(-1)", x.turn(-1), UNKNOWN);
        DUE.is("count(7)", x.count(7), 3);
        x.join(0, 1);
        DUE.is("turn(1) of one that is gone", x.turn(1), UNKNOWN);
    }

    private static void snip() {
        DUE.about("12 snip");
        TinselRiver x = Due.told("TS00abcS00d");
        DUE.is("snip(0)", x.snip(0), 3);
        DUE.is("snip(0)", x.snip(0), 2);
        DUE.is("snip(0) of one bend", x.snip(0), STATE);
        DUE.is("snip(1)", x.snip(1), STATE);
        DUE.is("snip(2)", x.snip(2), UNKNOWN);
        DUE.is("snip(-1)", x.snip(-1), UNKNOWN);
        DUE.is("bends(0)", x.bends(0), 1);
        DUE.is("count(7)", x.count(7), 2);
        x.join(0, 1);
        DUE.is("snip(1) of one that is gone", x.snip(1), UNKNOWN);
    }

    private static void join() {
        DUE.about("13 join");
        TinselRiver x = Due.told("TS00abcS01bcdS12abS02dcba");
        DUE.is("join(0, 0)", x.join(0, 0), OUTSIDE);
        DUE.is("join(4, 4)", x.join(4, 4), UNKNOWN);
        DUE.is("join(0, 4)", x.join(0, 4), UNKNOWN);
        DUE.is("join(-1, 0)", x.join(-1, 0), UNKNOWN);
        DUE.is("join(0, 2)", x.join(0, 2), STATE);
        DUE.is("count(7)", x.count(7), 0);
        DUE.is("join(0, 1)", x.join(0, 1), 4);
        DUE.is("bends(0)", x.bends(0), 1234);
        DUE.is("count(2)", x.count(2), 13);
        DUE.is("join(0, 1) again", x.join(0, 1), UNKNOWN);
        DUE.is("join(1, 0)", x.join(1, 0), UNKNOWN);
        DUE.is("join(3, 0)", x.join(3, 0), 7);
        DUE.is("bends(3)", x.bends(3), 4321234);
        // Six and six are twelve, and one more is too many.
        x = Due.told("TS00abababS00cdcdcdS00bS00d");
        DUE.is("join(0, 1)", x.join(0, 1), 12);
        DUE.is("join(0, 2)", x.join(0, 2), FULL);
        DUE.is("count(2)", x.count(2), 13);
        DUE.is("join(0, 3), all alike", x.join(0, 3), 12);
        DUE.is("bends(0)", x.bends(0), 121212343434L);
        DUE.is("join(2, 0)", x.join(2, 0), FULL);
        x.hang(2, 1);
        DUE.is("join(0, 2), state before full", x.join(0, 2), STATE);
    }

    private static void undo() {
        DUE.about("14 undo");
        TinselRiver x = Due.told("TS00abcS01cdS00dab");
        DUE.is("undo() of none", x.undo(), STATE);
        x.winter();
        x.hang(0, 2);
        x.turn(0);
        x.snip(0);
        DUE.is("undo() of a snip", x.undo(), 3);
        DUE.is("bends(0)", x.bends(0), 21);
        DUE.is("undo() of a turn", x.undo(), 2);
        DUE.is("bends(0)", x.bends(0), 12);
        DUE.is("undo() of a hang", x.undo(), 1);
        DUE.is("strand(0, 0)", x.strand(0, 0), 0);
        DUE.is("undo() of a winter", x.undo(), 0);
        DUE.is("count(4)", x.count(4), 0);
        DUE.is("bends(1), it is there again", x.bends(1), 34);
        x.join(0, 1);
        DUE.is("undo() of a join", x.undo(), 0);
        DUE.is("bends(0)", x.bends(0), 123);
        DUE.is("bends(1)", x.bends(1), 34);
        DUE.is("undo()", x.undo(), STATE);
        // Of seventeen acts the first three are forgotten.
        for (int i = 0; i < 17; i++) {
            x.hang(0, 1 + i % 3);
        }
        DUE.is("count(7)", x.count(7), 14);
        for (int left = 13; left >= 0; left--) {
            DUE.is("undo()", x.undo(), left);
        }
        DUE.is("undo()", x.undo(), STATE);
        DUE.is("strand(0, 0) after three acts", x.strand(0, 0), 3);
    }

    private static void later() {
        DUE.about("15 later");
        TinselRiver x = Due.told("TS00abcdabS02aS00bcS10ab");
        int[] due = {6, 5, 4, 4, 4};
        for (int n = 0; n < due.length; n++) {
            DUE.is("later(0, " + n + ")", x.later(0, n), due[n]);
        }
        DUE.is("later(2, 1)", x.later(2, 1), 1);
        DUE.is("later(2, 2)", x.later(2, 2), 0);
        DUE.is("later(0, 20)", x.later(0, 20), 4);
        DUE.is("later(0, 21)", x.later(0, 21), OUTSIDE);
        DUE.is("later(0, -1)", x.later(0, -1), OUTSIDE);
        DUE.is("later(4, 21)", x.later(4, 21), UNKNOWN);
        DUE.is("count(3), nothing is changed", x.count(3), 11);
        DUE.is("count(4), nothing is changed", x.count(4), 0);
        DUE.is("count(7), nothing is changed", x.count(7), 0);
        x.winter();
        x.winter();
        DUE.is("later(2, 0) of one that is gone", x.later(2, 0), UNKNOWN);
    }

    private static void lasts() {
        DUE.about("16 lasts");
        TinselRiver x = Due.told("TS03aS02abcdabS12cS01b");
        DUE.is("lasts(0)", x.lasts(0), NONE);
        DUE.is("lasts(1)", x.lasts(1), 6);
        DUE.is("lasts(2)", x.lasts(2), NONE);
        DUE.is("lasts(3)", x.lasts(3), 1);
        DUE.is("lasts(4)", x.lasts(4), UNKNOWN);
        DUE.is("lasts(-1)", x.lasts(-1), UNKNOWN);
        DUE.is("count(4), nothing is changed", x.count(4), 0);
        x.winter();
        DUE.is("lasts(1) a winter later", x.lasts(1), 5);
        DUE.is("lasts(3) of one that is gone", x.lasts(3), UNKNOWN);
        x = Due.told("TS02abababS02cdcdcdS13a");
        x.join(0, 1);
        x.hang(2, 0);
        DUE.is("lasts(0) of twelve bends", x.lasts(0), 12);
    }

    private static void overlap() {
        DUE.about("17 overlap");
        TinselRiver x = Due.told("TS00abaS10abaS20babS30b");
        DUE.is("overlap(0, 1), all of both", x.overlap(0, 1), 3);
        DUE.is("overlap(0, 2)", x.overlap(0, 2), 2);
        DUE.is("overlap(2, 0)", x.overlap(2, 0), 2);
        DUE.is("overlap(0, 3), within is no overlap", x.overlap(0, 3), 0);
        DUE.is("overlap(2, 3), all of the other", x.overlap(2, 3), 1);
        DUE.is("overlap(3, 2), all of the one", x.overlap(3, 2), 1);
        DUE.is("overlap(0, 0)", x.overlap(0, 0), OUTSIDE);
        DUE.is("overlap(4, 4)", x.overlap(4, 4), UNKNOWN);
        DUE.is("overlap(0, 4)", x.overlap(0, 4), UNKNOWN);
        DUE.is("overlap(-1, 0)", x.overlap(-1, 0), UNKNOWN);
        x.hang(1, 0);
        x.join(0, 1);
        DUE.is("overlap(0, 1) of one that is gone", x.overlap(0, 1), UNKNOWN);
    }

    private static void river() {
        DUE.about("18 river");
        TinselRiver x = Due.told("TS00cdS00abcS00dab");
        DUE.is("river(0)", x.river(0), 5);
        DUE.is("river(1)", x.river(1), 132);
        DUE.is("river(2)", x.river(2), OUTSIDE);
        DUE.is("river(-1)", x.river(-1), OUTSIDE);
        // One within another is no overlap, so that both orders are alike.
        x = Due.told("TS00bS00abc");
        DUE.is("river(0)", x.river(0), 4);
        DUE.is("river(1) of like ones", x.river(1), 12);
        // The row already there overlaps by more than the last strand of it alone.
        x = Due.told("TS00abS00bS00abc");
        DUE.is("river(0) by the row", x.river(0), 3);
        DUE.is("river(1) by the row", x.river(1), 123);
        x = Due.told("TS00abcdabS10cdcdcdS20bbbbbbS30aaaaaa");
        DUE.is("river(0) of the longest", x.river(0), 22);
        DUE.is("river(1) of the longest", x.river(1), 2413);
        x = Due.told("TS00aS00bS00cS00d");
        x.winter();
        DUE.is("count(2)", x.count(2), 12);
        DUE.is("river(0) of who is there", x.river(0), 2);
        DUE.is("river(1) of who is there", x.river(1), 34);
        x = new TinselRiver();
        DUE.is("river(0) of none", x.river(0), 0);
        DUE.is("river(1) of none", x.river(1), 0);
    }

    private static void covered() {
        DUE.about("19 covered");
        TinselRiver x = Due.told("TS00abaS10dS20ddd");
        DUE.is("covered() of no bed", x.covered(), 0);
        x.bed(12, 412121341344L);
        DUE.is("covered()", x.covered(), 0b110010111111);
        x.bed(7, 1212121);
        DUE.is("covered() over one another", x.covered(), 127);
        x.bed(2, 12);
        DUE.is("covered() by none, beyond the bed", x.covered(), 0);
        x.bed(1, 4);
        DUE.is("covered() of one", x.covered(), 1);
        x = Due.told("TS00aS00bS00cS00d");
        x.bed(4, 1234);
        x.winter();
        DUE.is("covered() by who is there", x.covered(), 12);
    }

    private static void ways() {
        DUE.about("20 ways");
        TinselRiver x = new TinselRiver();
        DUE.is("ways() of none, no bed", x.ways(), 1);
        x.bed(1, 1);
        DUE.is("ways() of none in a bed", x.ways(), 0);
        x = Due.told("TS00aS00a");
        DUE.is("ways() of two, no bed", x.ways(), 0);
        x.bed(2, 11);
        DUE.is("ways() of two", x.ways(), 2);
        x.bed(1, 1);
        DUE.is("ways() over one another", x.ways(), 1);
        x.bed(3, 111);
        DUE.is("ways() too short", x.ways(), 0);
        x = Due.told("TS00aS10aaS20b");
        x.bed(4, 1112);
        DUE.is("ways()", x.ways(), 2);
        x.bed(3, 111);
        DUE.is("ways(), one lies nowhere", x.ways(), 0);
        x = Due.told("TS00aaaaaaS00aaaaaaS00aaaaaaS00aaaaaa");
        x.bed(12, 111111111111L);
        // One lies at 0 and one at 6; by inclusion of 7, 6, 6 and 5 places.
        DUE.is("ways() of four in twelve", x.ways(), 2401 - 2 * 1296 + 625);
        x = Due.told("TS00aS00bS00cS00d");
        x.bed(2, 34);
        x.winter();
        DUE.is("ways() of who is there", x.ways(), 1);
    }

    private static void judge() {
        DUE.about("21 judge");
        TinselRiver x = Due.told("TS00abcS01cdS12da");
        x.bed(5, 12344);
        DUE.is("judge(0, 0)", x.judge(0, 0), OUTSIDE);
        DUE.is("judge(5, 0)", x.judge(5, 0), OUTSIDE);
        DUE.is("judge(MIN, 0)", x.judge(MIN, 0), OUTSIDE);
        DUE.is("judge(MAX, 0)", x.judge(MAX, 0), OUTSIDE);
        DUE.is("judge(1, -1)", x.judge(1, -1), OUTSIDE);
        DUE.is("judge(1, 1000)", x.judge(1, 1000), OUTSIDE);
        DUE.is("judge(2, 1000000)", x.judge(2, 1000000), OUTSIDE);
        DUE.is("judge(4, 13 figures)", x.judge(4, 1000000000000L), OUTSIDE);
        DUE.is("judge(4, MIN)", x.judge(4, Long.MIN_VALUE), OUTSIDE);
        DUE.is("judge(4, MAX)", x.judge(4, Long.MAX_VALUE), OUTSIDE);
        DUE.is("judge(4, 0), four winters", x.judge(4, 0), NONE);
        DUE.is("judge(3, 401120402), joined", x.judge(3, 401120402L), NONE);
        DUE.is("judge(2, 401511), gone", x.judge(2, 401511), 1);
        DUE.is("judge(2, 401510), gone, not even none", x.judge(2, 401510), 1);
        DUE.is("judge(2, 401504), four bends", x.judge(2, 401504), NONE);
        DUE.is("judge(2, 401505), not five", x.judge(2, 401505), 1);
        DUE.is("judge(2, 401600), it lies", x.judge(2, 401600), NONE);
        DUE.is("judge(3, 201200600)", x.judge(3, 201200600), 2);
        DUE.is("judge(4, 300300300000)", x.judge(4, 300300300000L), 2);
        DUE.is("judge(2, 120000), a crowd, then", x.judge(2, 120000), NONE);
        DUE.is("judge(3, 120000511), the thin one is gone", x.judge(3, 120000511), 2);
        DUE.is("count(3), nothing is changed", x.count(3), 7);
        DUE.is("count(4), nothing is changed", x.count(4), 0);
        DUE.is("count(7), nothing is changed", x.count(7), 0);
    }

    private static void judgeWhatCanNotBe() {
        TinselRiver x = Due.told("TS00abcS01cdS12d");
        x.bed(5, 12344);
        int[] canNot = {
            1, 10, 100, 104, 130, 210, 203, 310, 303, 302, 400, 402, 403, 430,
            530, 539, 504, 513, 522, 610, 603, 700, 777, 800, 999};
        for (int doing : canNot) {
            DUE.is("judge(1, " + doing + ")", x.judge(1, doing), 0);
            DUE.is("judge(2, a winter and " + doing + ")", x.judge(2, doing), 1);
        }
        int[] can = {0, 101, 110 + 2, 120, 200, 201, 202, 300, 301, 401, 410, 500, 503, 512, 521, 600, 601, 602};
        for (int doing : can) {
            DUE.is("judge(1, " + doing + ")", x.judge(1, doing), NONE);
        }
        x.join(0, 1);
        DUE.is("judge(1, 510) of one that is gone", x.judge(1, 510), 0);
        DUE.is("judge(1, 201) of one that is gone", x.judge(1, 201), 0);
    }

    private static void lay() {
        DUE.about("22 lay");
        TinselRiver x = new TinselRiver();
        DUE.is("lay(-1, 0)", x.lay(-1, 0), OUTSIDE);
        DUE.is("lay(12, 0)", x.lay(12, 0), OUTSIDE);
        DUE.is("lay(0, 2)", x.lay(0, 2), OUTSIDE);
        DUE.is("lay(0, -1)", x.lay(0, -1), OUTSIDE);
        DUE.is("count(8)", x.count(8), 0);
        DUE.is("lay(0, 0)", x.lay(0, 0), 1);
        DUE.is("lay(11, 0), beyond the bed", x.lay(11, 0), 2);
        DUE.is("lay(0, 0) again", x.lay(0, 0), 3);
        x.lay(1, 0);
        x.lay(2, 0);
        DUE.is("lay(3, 0)", x.lay(3, 0), 6);
        DUE.is("lay(3, 0) of the seventh", x.lay(3, 0), FULL);
        DUE.is("lay(12, 0) of the seventh", x.lay(12, 0), OUTSIDE);
        DUE.is("lay(3, 2) of the seventh", x.lay(3, 2), OUTSIDE);
        DUE.is("count(8)", x.count(8), 6);
        DUE.is("count(7), it is no act", x.count(7), 0);
    }

    private static void unlay() {
        DUE.about("23 unlay");
        TinselRiver x = new TinselRiver();
        DUE.is("unlay() of none", x.unlay(), 0);
        x.bed(2, 12);
        x.lay(0, 1);
        x.lay(1, 1);
        DUE.is("unlay()", x.unlay(), 2);
        DUE.is("count(8)", x.count(8), 0);
        DUE.is("which(0)", x.which(0), 84);
        DUE.is("unlay()", x.unlay(), 0);
    }

    private static void which() {
        DUE.about("24 which");
        TinselRiver x = new TinselRiver();
        DUE.is("which(0)", x.which(0), 84);
        DUE.is("which(1)", x.which(1), 1);
        DUE.is("which(2)", x.which(2), OUTSIDE);
        DUE.is("which(-1)", x.which(-1), OUTSIDE);
        x.lay(0, 0);
        DUE.is("which(0), it lay not in no bed", x.which(0), 84);
        x.lay(0, 1);
        DUE.is("which(0) of what is not so", x.which(0), 0);
        DUE.is("which(1) of what is not so", x.which(1), NONE);
        x.unlay();
        x.bed(5, 34434);
        x.lay(0, 1);
        DUE.is("which(0): 3, 34, 344", x.which(0), 3);
        DUE.is("which(1)", x.which(1), 3);
        x.lay(3, 0);
        DUE.is("which(0): 344", x.which(0), 1);
        DUE.is("which(1)", x.which(1), 344);
        x.bed(6, 344344);
        DUE.is("which(0) by the bed as it is now", x.which(0), 0);
        x.bed(5, 34434);
        x.unlay();
        x.lay(3, 1);
        DUE.is("which(0): 3, 34, all within", x.which(0), 2);
        x.unlay();
        x.lay(0, 0);
        DUE.is("which(0): all but three", x.which(0), 81);
        x.lay(1, 0);
        DUE.is("which(0): all but six", x.which(0), 78);
        DUE.is("which(1)", x.which(1), 1);
        x.unlay();
        x.lay(11, 1);
        DUE.is("which(1) beyond the bed", x.which(1), NONE);
    }

    private static void shareOf(TinselRiver x, int strand, int above, int below) {
        DUE.is("share(" + strand + ", true)", x.share(strand, true), above);
        DUE.is("share(" + strand + ", false)", x.share(strand, false), below);
    }

    private static void share() {
        DUE.about("25 share");
        TinselRiver x = Due.told("TS00abcS00bcdS00abcdS00d");
        shareOf(x, 0, 0, 1);
        x.bed(4, 1234);
        shareOf(x, 0, 7, 6);
        shareOf(x, 1, 1, 1);
        shareOf(x, 2, 3, 2);
        shareOf(x, 3, 1, 3);
        shareOf(x, 4, UNKNOWN, UNKNOWN);
        shareOf(x, -1, UNKNOWN, UNKNOWN);
        x = Due.told("TS00aS00aS00aS00a");
        x.bed(3, 111);
        shareOf(x, 3, 3, 4);
        x.bed(12, 111111111111L);
        shareOf(x, 0, 3, 1);
        x.join(0, 1);
        shareOf(x, 0, 4, 1);
        shareOf(x, 1, UNKNOWN, UNKNOWN);
    }

    private static void restsOf(TinselRiver x, int one, int other, int many, int first) {
        DUE.is("rests(" + one + ", " + other + ", 0)", x.rests(one, other, 0), many);
        DUE.is("rests(" + one + ", " + other + ", 1)", x.rests(one, other, 1), first);
    }

    private static void rests() {
        DUE.about("26 rests");
        // Two alone lose nothing, so each stays where it is.
        TinselRiver x = Due.told("TS00abS10cd");
        restsOf(x, 0, 1, 1, 1);
        restsOf(x, 1, 0, 1, 10);
        // A flood stays; who is flooded goes to any other house.
        x = Due.told("TS23abS20cd");
        restsOf(x, 0, 1, 3, 20);
        restsOf(x, 1, 0, 3, 2);
        // Floods in two houses drive both to where they were.
        x = Due.told("TS00aS23bS02cdS13d");
        restsOf(x, 0, 2, 1, 0);
        // Of three plain ones one stays, and the other one goes to any other house.
        x = Due.told("TS20abcS20abcS20abcS12a");
        restsOf(x, 0, 1, 6, 2);
        x = Due.told("TS00aS23bS02cdS13d");
        DUE.is("rests(0, 0, 0)", x.rests(0, 0, 0), OUTSIDE);
        DUE.is("rests(0, 2, 2)", x.rests(0, 2, 2), OUTSIDE);
        DUE.is("rests(0, 2, -1)", x.rests(0, 2, -1), OUTSIDE);
        DUE.is("rests(4, 4, 5)", x.rests(4, 4, 5), UNKNOWN);
        DUE.is("rests(0, 4, 5)", x.rests(0, 4, 5), UNKNOWN);
        DUE.is("rests(-1, 0, 0)", x.rests(-1, 0, 0), UNKNOWN);
        DUE.is("count(7), nothing is changed", x.count(7), 0);
        DUE.is("count(3), nothing is changed", x.count(3), 5);
        x.join(0, 2);
        DUE.is("rests(0, 2, 0) of one that is gone", x.rests(0, 2, 0), UNKNOWN);
    }

    private static void lostBy(TinselRiver x, int tenths, int above, int below) {
        DUE.is("lost(" + tenths + ", true)", x.lost(tenths, true), above);
        DUE.is("lost(" + tenths + ", false)", x.lost(tenths, false), below);
    }

    private static void lost() {
        DUE.about("27 lost");
        TinselRiver x = Due.told("TS00abS10cdS20abcdS30d");
        lostBy(x, 5, 1, 1);
        lostBy(x, 10, 1, 1);
        x.bed(4, 1234);
        lostBy(x, 0, 1, 1);
        lostBy(x, 10, 0, 1);
        lostBy(x, 5, 5, 8);
        // 7/10 for the long one, and 3/10 times 49/100 for the two.
        lostBy(x, 3, 847, 1000);
        lostBy(x, 9, 109, 1000);
        lostBy(x, -1, OUTSIDE, OUTSIDE);
        lostBy(x, 11, OUTSIDE, OUTSIDE);
        lostBy(x, MIN, OUTSIDE, OUTSIDE);
        x.bed(2, 41);
        lostBy(x, 0, 0, 1);
        x = Due.told("TS00aS10bS20cS30d");
        x.bed(4, 1234);
        lostBy(x, 1, 6561, 10000);
        x = new TinselRiver();
        lostBy(x, 3, 1, 1);
        x.bed(1, 1);
        lostBy(x, 3, 0, 1);
    }

    private static void seed() {
        DUE.about("28 seed");
        TinselRiver x = new TinselRiver();
        DUE.is("seed(MIN)", x.seed(Long.MIN_VALUE), 0);
        DUE.is("seed(MAX)", x.seed(Long.MAX_VALUE), Long.MIN_VALUE);
        DUE.is("seed(-1)", x.seed(-1), Long.MAX_VALUE);
        DUE.is("seed(0)", x.seed(0), -1);
        x.years(1);
        DUE.is("seed(0) after a year", x.seed(0), 1442695040888963407L);
    }

    private static long after(long seed) {
        return seed * 6364136223846793005L + 1442695040888963407L;
    }

    /** A seed by which, step by step, the upper 31 bits leave these by 32. */
    private static long seedFor(int... left) {
        for (long seed = 0; seed < 10000000; seed++) {
            long next = seed;
            int fits = 0;
            while (fits < left.length && (after(next) >>> 33) % 32 == left[fits]) {
                next = after(next);
                fits++;
            }
            if (fits == left.length) {
                return seed;
            }
        }
        throw new IllegalStateException("no seed leaves these");
    }

    private static void yearsBy(TinselRiver x, int want, int... left) {
        x.seed(seedFor(left));
        DUE.is("years(" + left.length + ") by " + java.util.Arrays.toString(left), x.years(left.length), want);
    }

    private static void years() {
        DUE.about("29 years");
        TinselRiver x = Due.told("TS00abcS00cdaS00dabS13abcdab");
        DUE.is("years(0)", x.years(0), OUTSIDE);
        DUE.is("years(31)", x.years(31), OUTSIDE);
        DUE.is("years(MIN)", x.years(MIN), OUTSIDE);
        DUE.is("seed(0), what is refused leaves it", x.seed(0), 0);
        int[] due = new int[32];
        java.util.Arrays.fill(due, 15);
        due[20] = 14;
        due[21] = 13;
        // Three in house 0: the first loses, then the second, then the third.
        java.util.Arrays.fill(due, 23, 32, 12);
        for (int left = 0; left < 32; left++) {
            yearsBy(x, due[left], left);
        }
        // Hung with the flood it loses its first, and the two that are left are no crowd.
        yearsBy(x, 15 + 14, 1, 23);
        yearsBy(x, 15 + 14, 5, 31);
        // The flood comes to the three: each loses its last and its first.
        yearsBy(x, 15 + 9, 12, 24);
        // Turned, what was alike is so no more.
        yearsBy(x, 15 + 15, 16, 20);
        yearsBy(x, 15 + 15, 17, 20);
        yearsBy(x, 15 + 15, 18, 21);
        // Not in one house they are not joined; in one, badcba is behind dab by a b.
        yearsBy(x, 15 + 15, 19, 22);
        yearsBy(x, 15 + 15 + 14, 19, 12, 22);
        // Who is gone can not be hung or turned.
        yearsBy(x, 14 + 14 + 14, 20, 7, 17);
        DUE.is("count(2), nothing is changed", x.count(2), 15);
        DUE.is("count(3), nothing is changed", x.count(3), 15);
        DUE.is("count(4), nothing is changed", x.count(4), 0);
        DUE.is("count(7), nothing is changed", x.count(7), 0);
        x = new TinselRiver();
        DUE.is("years(30) of none", x.years(30), 0);
        long seed = 0;
        for (int i = 0; i < 30; i++) {
            seed = after(seed);
        }
        DUE.is("seed(0) after thirty", x.seed(0), seed);
    }

    private static void keep() {
        DUE.about("30 keep");
        TinselRiver x = Due.told("TS00aS00abS00cd");
        DUE.is("keep(2)", x.keep(2), UNKNOWN);
        DUE.is("keep(-1)", x.keep(-1), UNKNOWN);
        DUE.is("keep(0)", x.keep(0), 0);
        x.winter();
        x.winter();
        DUE.is("keep(1)", x.keep(1), 2);
        DUE.is("count(7), the acts stay", x.count(7), 2);
        DUE.is("again(0)", x.again(0), 0);
        DUE.is("count(2)", x.count(2), 7);
        DUE.is("again(1)", x.again(1), 2);
        DUE.is("count(2)", x.count(2), 6);
        x.winter();
        DUE.is("keep(0) over what was kept", x.keep(0), 3);
        x.undo();
        DUE.is("again(0)", x.again(0), 3);
    }

    private static void again() {
        DUE.about("31 again");
        TinselRiver x = Due.told("TS00abcS00cdS11d");
        DUE.is("again(2)", x.again(2), UNKNOWN);
        DUE.is("again(-1)", x.again(-1), UNKNOWN);
        x.keep(1);
        x.turn(0);
        DUE.is("again(1) in the year 0", x.again(1), 0);
        DUE.is("undo()", x.undo(), STATE);
        x.winter();
        DUE.is("again(0)", x.again(0), STATE);
        DUE.is("count(7), what is refused changes nothing", x.count(7), 1);
        x.keep(0);
        x.join(0, 1);
        x.turn(0);
        x.hang(0, 3);
        x.winter();
        x.bed(2, 12);
        x.lay(0, 1);
        x.seed(9);
        DUE.is("again(0)", x.again(0), 1);
        DUE.is("bends(0)", x.bends(0), 123);
        DUE.is("bends(1)", x.bends(1), 34);
        DUE.is("strand(0, 0)", x.strand(0, 0), 0);
        DUE.is("count(4)", x.count(4), 1);
        DUE.is("count(5), the bed stays", x.count(5), 2);
        DUE.is("count(7)", x.count(7), 0);
        DUE.is("count(8)", x.count(8), 1);
        DUE.is("seed(0)", x.seed(0), 9);
        DUE.is("undo()", x.undo(), STATE);
        x.snip(0);
        DUE.is("again(0) once more", x.again(0), 1);
        DUE.is("bends(0)", x.bends(0), 123);
    }

    private static void count() {
        DUE.about("32 count");
        TinselRiver x = Due.told("TS00abcS02cdS33dS31ab");
        x.bed(5, 11111);
        x.lay(1, 1);
        x.lay(2, 0);
        x.join(0, 1);
        x.winter();
        x.write('S');
        int[] due = {22, 4, 13, 6, 1, 5, 9, 2, 2};
        for (int what = 0; what < due.length; what++) {
            DUE.is("count(" + what + ")", x.count(what), due[what]);
        }
        DUE.is("count(9)", x.count(9), OUTSIDE);
        DUE.is("count(-1)", x.count(-1), OUTSIDE);
        DUE.is("count(MIN)", x.count(MIN), OUTSIDE);
    }
}
