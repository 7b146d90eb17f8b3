/** Promises 1 to 10: a new object, the text, the tower and what is told of it. */
public final class TowerTest {
    private static final int[] WRONG = {-1, Integer.MIN_VALUE, Integer.MAX_VALUE};
    private static final Check CHECK = new Check("TowerTest");

    public static void main(String[] args) {
        newObject();
        write();
        wipe();
        faults();
        tower();
        towerTwice();
        about();
        floor();
        record();
        cites();
        effort();
        CHECK.finish();
    }

    private static void newObject() {
        SinkingArchive x = new SinkingArchive();
        CHECK.dueAbout("new", x, 2, 0, 0, 0, 9, 9, 0, 0, 0, 0);
        CHECK.due("floor(0, 0)", x.floor(0, 0), 0);
        CHECK.due("floor(1, 0)", x.floor(1, 0), 0);
        CHECK.due("floor(2, 0)", x.floor(2, 0), SinkingArchive.UNKNOWN);
        CHECK.due("record(0, 0)", x.record(0, 0), SinkingArchive.UNKNOWN);
        CHECK.due("undo()", x.undo(), SinkingArchive.LATE);
        CHECK.due("again(0)", x.again(0), SinkingArchive.LATE);
        CHECK.due("again(1)", x.again(1), SinkingArchive.LATE);
        CHECK.due("fault()", x.fault(), 0);
        CHECK.due("tower()", x.tower(), SinkingArchive.LATE);
        CHECK.due("most(3)", x.most(3), 0);
        CHECK.due("atHand()", x.atHand(), 0);
        CHECK.due("lies(false)", x.lies(false), 1);
        CHECK.due("dive(99, 1)", x.dive(99, 1), 0);
    }

    private static void write() {
        SinkingArchive x = new SinkingArchive();
        CHECK.due("write(0)", x.write(0, 84), SinkingArchive.BAD);
        CHECK.due("write(9)", x.write(9, 84), SinkingArchive.BAD);
        for (int n : WRONG) {
            CHECK.due("write(" + n + ")", x.write(n, 84), SinkingArchive.BAD);
        }
        CHECK.due("nothing came", x.about(9), 0);
        // The highest of the lowest n first; what is above them does not come.
        CHECK.due("write T2", x.write(2, 0x7F5432L), 2);
        CHECK.due("write 30", x.write(2, 0xFFFFFFFFFFFF3330L), 4);
        CHECK.due("write 40R22100", x.write(8, 0x3430523232313030L), 12);
        CHECK.due("tower()", x.tower(), 1);
        CHECK.dueRecord("written", x, 0, 2, 2, 1, 0, 0, 0, 0);
        CHECK.due("floor(0, 0)", x.floor(0, 0), 30);
        CHECK.due("floor(1, 0)", x.floor(1, 0), 40);
        // A byte is 0 .. 255 and no figure by its low bits alone.
        CHECK.due("write 255", x.write(1, -1L), 13);
        CHECK.due("fault()", x.fault(), 12);
        writeFull();
    }

    private static void writeFull() {
        SinkingArchive x = new SinkingArchive();
        Check.put(x, "T29900");
        for (int i = 0; i < 11; i++) {
            Check.put(x, "R11100");
        }
        CHECK.due("72 bytes", x.about(9), 72);
        CHECK.due("eight records at most", x.fault(), 54);
        CHECK.due("write(5)", x.write(5, 0), SinkingArchive.FULL);
        CHECK.due("nothing came", x.about(9), 72);
        CHECK.due("write(4)", x.write(4, 0), 76);
        CHECK.due("write(1)", x.write(1, 0), SinkingArchive.FULL);
        CHECK.due("write(8)", x.write(8, 0), SinkingArchive.FULL);
        CHECK.due("write(0)", x.write(0, 0), SinkingArchive.BAD);
        CHECK.due("write(9)", x.write(9, 0), SinkingArchive.BAD);
        CHECK.due("wipe()", x.wipe(), 76);
        CHECK.due("write(8)", x.write(8, 0x5432303230315231L), 8);
        CHECK.due("fault()", x.fault(), 8);
    }

    private static void wipe() {
        SinkingArchive x = Check.towerOf("T20500R51100");
        CHECK.due("wipe()", x.wipe(), 12);
        CHECK.due("wipe()", x.wipe(), 0);
        CHECK.dueAbout("the tower stays", x, 2, 1, 0, 0, 9, 9, 0, 1, 0, 0);
        CHECK.due("fault()", x.fault(), 0);
    }

    private static void dueFault(String text, int want) {
        SinkingArchive x = new SinkingArchive();
        Check.put(x, text);
        int records = text.length() - text.replace("R", "").length();
        CHECK.due("fault of " + text, x.fault(), want);
        CHECK.due("tower of " + text, x.tower(), want == SinkingArchive.NONE ? records : SinkingArchive.LATE);
    }

    private static void faults() {
        int none = SinkingArchive.NONE;
        dueFault("", 0);
        dueFault("t", 0);
        dueFault("2", 0);
        dueFault("T", 1);
        dueFault("T1", 1);
        dueFault("T6", 1);
        dueFault("T:", 1);
        dueFault("TT", 1);
        dueFault("T2", 2);
        dueFault("T2000", 5);
        dueFault("T2R", 2);
        dueFault("T20/", 3);
        dueFault("T20000", none);
        dueFault("T29999", none);
        dueFault("T500000000", 10);
        dueFault("T50000000000", none);
        dueFault("T200000", 6);
        dueFault("T20000Q", 6);
        dueFault("T20000R", 6);
        dueFault("T20001R", 7);
        dueFault("T20001R0", 7);
        dueFault("T20001R2", 7);
        dueFault("T20001R1", 8);
        dueFault("T20001R1a", 8);
        dueFault("T20001R19", 9);
        dueFault("T20001R19:", 9);
        dueFault("T20001R199", 10);
        dueFault("T20001R1994", 10);
        dueFault("T20001R1993", 10);
        dueFault("T20001R1992", 11);
        dueFault("T20001R19920", 11);
        dueFault("T20001R19922", 11);
        dueFault("T20001R19921", none);
        dueFault("T20001R19921R", 12);
        dueFault("T20001R19921Q", 12);
        dueFault("T20909R91100R91101R", 18);
        faultsOfKindsAndCites(none);
    }

    private static void faultsOfKindsAndCites(int none) {
        // Joined: on the floor of the one ahead, which must have room for it.
        dueFault("T20905R51100R51131", 16);
        dueFault("T20905R51100R41131", 17);
        dueFault("T20905R51100R41130", none);
        dueFault("T20905R51100R41130R1113", 22);
        dueFault("T20905R51100R41130R11101", none);
        dueFault("T21111R11100R11100Q01R11131", 26);
        dueFault("T21111R11100R11100Q01R11130", none);
        dueFault("T21111R11100Q", 12);
        dueFault("T21111R11100R11100Q2", 19);
        dueFault("T21111R11100R11100QQ", 19);
        dueFault("T21111R11100R11100Q", 19);
        dueFault("T21111R11100R11100Q0", 20);
        dueFault("T21111R11100R11100Q00", 20);
        dueFault("T21111R11100R11100Q02", 20);
        dueFault("T21111R11100R11100Q01", none);
        dueFault("T21111R11100R11100Q01Q0", 22);
        dueFault("T21111R11100R11100Q01Q10", none);
        dueFault("T21111R11100R11100Q01Q10Q", 24);
        dueFault("T21111R11100R11100Q01Q10R11100Q01", 32);
        dueFault("T21111R11100R11100Q01Q10R11100Q02Q0", 34);
        dueFault("T21111R11100R11100R11100Q21Q20Q01Q02Q10Q12", none);
        dueFault("T21111R11100R11100R11100Q21Q20Q01Q02Q10Q12Q", 42);
        // The ninth record is too many by its R.
        String eight = "T29900" + "R11100".repeat(8);
        dueFault(eight, none);
        dueFault(eight + "R", 54);
        dueFault(eight + "Q78", 56);
        dueFault(eight + "Q70", none);
        dueFault(eight + "X", 54);
    }

    private static void tower() {
        SinkingArchive x = Check.towerOf("T3403040R22101R22131R11111R33110Q02");
        x.effort(50);
        x.carry(2, 2);
        x.decade();
        x.keep(0);
        x.index(0, 0);
        Check.put(x, "Q");
        CHECK.due("tower() by a fault", x.tower(), SinkingArchive.LATE);
        CHECK.dueAbout("all as it was", x, 3, 4, 1, 1, 50, 50, 2, 3, 1, 36);
        CHECK.due("again(0)", x.again(0), 1);
        x.wipe();
        Check.put(x, "T20305R21001R15310Q01");
        CHECK.due("tower()", x.tower(), 2);
        CHECK.dueAbout("another tower", x, 2, 2, 0, 0, 9, 9, 0, 6, 0, 21);
        CHECK.due("again(0)", x.again(0), SinkingArchive.LATE);
        CHECK.due("again(1)", x.again(1), SinkingArchive.LATE);
        CHECK.due("undo()", x.undo(), SinkingArchive.LATE);
        CHECK.dueRecord("first", x, 0, 2, 1, 0, 0, 1, 0, 1);
        CHECK.dueRecord("second", x, 1, 1, 5, 3, 1, 0, 0, 0);
        CHECK.due("cites(0, 1)", x.cites(0, 1), 1);
        CHECK.due("cites(0, 2)", x.cites(0, 2), SinkingArchive.UNKNOWN);
        CHECK.due("floor(2, 0)", x.floor(2, 0), SinkingArchive.UNKNOWN);
    }

    private static void towerTwice() {
        SinkingArchive x = Check.towerOf("T20909R91100R91101Q01");
        x.decade();
        x.keep(1);
        CHECK.due("the same text once more", x.tower(), 2);
        CHECK.dueAbout("as at first", x, 2, 2, 0, 0, 9, 9, 0, 2, 1, 21);
        CHECK.due("again(1)", x.again(1), SinkingArchive.LATE);
        // A text that is looked at, but not taken, leaves the tower's cites and records alone.
        x.wipe();
        Check.put(x, "T31111");
        CHECK.due("fault()", x.fault(), 6);
        CHECK.due("cites(0, 1)", x.cites(0, 1), 1);
        CHECK.due("cites(1, 0)", x.cites(1, 0), 0);
        Check.put(x, "00R11100R11100");
        CHECK.due("tower()", x.tower(), 2);
        CHECK.due("cites(0, 1)", x.cites(0, 1), 0);
    }

    private static void about() {
        SinkingArchive x = Check.towerOf("T450505050R22310R15410R33221R44001R19912Q01");
        CHECK.dueAbout("told", x, 4, 5, 0, 0, 9, 9, 0, 2 + 5 + 4 + 9, 2 + 0 + 18, 43);
        x.carry(0, 2);
        CHECK.dueAbout("carried", x, 4, 5, 0, 0, 9, 5, 1, 20, 2 * 3 + 2 + 18, 43);
        x.decade();
        // On floor 1 are the forged one and record 3: both lose one; record 1 is gone.
        CHECK.dueAbout("a decade", x, 4, 5, 1, 1, 9, 9, 2, 2 + 3 + 9, 3 + 9, 43);
        CHECK.due("about(10)", x.about(10), SinkingArchive.BAD);
        for (int what : WRONG) {
            CHECK.due("about(" + what + ")", x.about(what), SinkingArchive.BAD);
        }
    }

    private static void floor() {
        SinkingArchive x = Check.towerOf("T3201000R22100R34100R52101");
        CHECK.due("floor(0, 0)", x.floor(0, 0), 20);
        CHECK.due("floor(1, 0)", x.floor(1, 0), 10);
        CHECK.due("floor(2, 0)", x.floor(2, 0), 0);
        CHECK.due("floor(0, 1)", x.floor(0, 1), 5);
        CHECK.due("floor(1, 1)", x.floor(1, 1), 5);
        CHECK.due("floor(2, 1)", x.floor(2, 1), 0);
        CHECK.due("floor(0, 2)", x.floor(0, 2), 3);
        CHECK.due("floor(1, 2)", x.floor(1, 2), 4);
        CHECK.due("floor(3, 0)", x.floor(3, 0), SinkingArchive.UNKNOWN);
        CHECK.due("floor(3, 3)", x.floor(3, 3), SinkingArchive.UNKNOWN);
        CHECK.due("floor(0, 3)", x.floor(0, 3), SinkingArchive.BAD);
        CHECK.due("floor(0, -1)", x.floor(0, -1), SinkingArchive.BAD);
        for (int floor : WRONG) {
            CHECK.due("floor(" + floor + ", 0)", x.floor(floor, 0), SinkingArchive.UNKNOWN);
        }
        x.decade();
        CHECK.due("under water, bears", x.floor(0, 0), 20);
        CHECK.due("under water, weight", x.floor(0, 1), 0);
        CHECK.due("under water, set", x.floor(0, 2), 0);
        CHECK.due("above it, set", x.floor(1, 2), 4);
    }

    private static void record() {
        SinkingArchive x = Check.towerOf("T29999R98711R12321R54331");
        CHECK.dueRecord("skin", x, 0, 9, 8, 7, 1, 1, 0, 1);
        CHECK.due("record(0, 7)", x.record(0, 7), SinkingArchive.BAD);
        CHECK.due("record(0, -1)", x.record(0, -1), SinkingArchive.BAD);
        CHECK.due("record(3, 7)", x.record(3, 7), SinkingArchive.UNKNOWN);
        for (int record : WRONG) {
            CHECK.due("record(" + record + ", 0)", x.record(record, 0), SinkingArchive.UNKNOWN);
        }
    }

    private static void cites() {
        SinkingArchive x = Check.towerOf("T29999R11100R11100R11100Q01Q20Q21");
        int[][] want = {{0, 1, 0}, {0, 0, 0}, {1, 1, 0}};
        for (int r = 0; r < 3; r++) {
            for (int o = 0; o < 3; o++) {
                CHECK.due("cites(" + r + ", " + o + ")", x.cites(r, o), want[r][o]);
            }
            CHECK.due("cites(r, 3)", x.cites(r, 3), SinkingArchive.UNKNOWN);
            CHECK.due("cites(3, r)", x.cites(3, r), SinkingArchive.UNKNOWN);
            for (int other : WRONG) {
                CHECK.due("cites(r, " + other + ")", x.cites(r, other), SinkingArchive.UNKNOWN);
                CHECK.due("cites(" + other + ", r)", x.cites(other, r), SinkingArchive.UNKNOWN);
            }
        }
        x.decade();
        CHECK.due("drowned ones cite as ever", x.cites(2, 0), 1);
    }

    private static void effort() {
        SinkingArchive x = Check.towerOf("T3999999R51100");
        CHECK.due("carry(0, 1)", x.carry(0, 1), 5);
        CHECK.due("effort(2)", x.effort(2), 9);
        CHECK.due("left, 0 at least", x.about(5), 0);
        CHECK.due("effort", x.about(4), 2);
        CHECK.due("effort(9)", x.effort(9), 2);
        CHECK.due("left by as much more", x.about(5), 7);
        CHECK.due("effort(6)", x.effort(6), 9);
        CHECK.due("left by as much less", x.about(5), 4);
        CHECK.due("effort(100)", x.effort(100), SinkingArchive.BAD);
        for (int e : WRONG) {
            CHECK.due("effort(" + e + ")", x.effort(e), SinkingArchive.BAD);
        }
        CHECK.due("refused, as it was", x.about(4), 6);
        CHECK.due("no act", x.about(6), 1);
        CHECK.due("effort(99)", x.effort(99), 6);
        CHECK.due("left", x.about(5), 97);
        CHECK.due("effort(0)", x.effort(0), 99);
        CHECK.due("undo()", x.undo(), 0);
        CHECK.due("effort as ahead of the act", x.about(4), 9);
        CHECK.due("left as ahead of the act", x.about(5), 9);
    }
}
