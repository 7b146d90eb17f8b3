/** Promises 26 and 27 and what part 4 says of slots: each sentence that names a bound, on both sides of it. */
public final class EdgeSlotsTest {
    private static final int UNKNOWN = SinkingArchive.UNKNOWN, LATE = SinkingArchive.LATE;
    private static final int[] NO_SLOTS = {-1, 2, 3, Integer.MIN_VALUE, Integer.MAX_VALUE, 256, 257, 1 << 30};
    private static final Check CHECK = new Check("EdgeSlotsTest");

    public static void main(String[] args) {
        slotsNoughtToOne();
        noneWereKept();
        keptOfANewObject();
        keepsAllThatIsNamed();
        keepsNoMore();
        actsAreNone();
        keptAnew();
        eachSlotAlone();
        goneOnFromTwice();
        allUnderWater();
        CHECK.finish();
    }

    // "SLOTS 0 .. 1". "UNKNOWN."
    private static void slotsNoughtToOne() {
        SinkingArchive x = Check.towerOf("T29999R10000");
        for (int slot : NO_SLOTS) {
            CHECK.due("keep(" + slot + ")", x.keep(slot), UNKNOWN);
            CHECK.due("again(" + slot + ")", x.again(slot), UNKNOWN);
        }
        CHECK.due("nothing was kept", x.again(0), LATE);
        CHECK.due("nothing was kept", x.again(1), LATE);
        for (int slot = 0; slot < 2; slot++) {
            CHECK.due("keep(" + slot + ")", x.keep(slot), 0);
            CHECK.due("again(" + slot + ")", x.again(slot), 0);
        }
        for (int slot : NO_SLOTS) {
            CHECK.due("UNKNOWN, as ever", x.again(slot), UNKNOWN);
        }
    }

    // "LATE: none were kept."
    private static void noneWereKept() {
        for (int slot = 0; slot < 2; slot++) {
            SinkingArchive x = Check.towerOf("T29999R10000");
            CHECK.due("none", x.again(slot), LATE);
            x.keep(1 - slot);
            CHECK.due("none in this one", x.again(slot), LATE);
            x.keep(slot);
            CHECK.due("some", x.again(slot), 0);
            x.wipe();
            CHECK.due("they stay when the text does not", x.again(slot), 0);
            CHECK.due("no tower", x.tower(), LATE);
            CHECK.due("they stay when there is no other tower", x.again(slot), 0);
            Check.put(x, "T20000");
            x.tower();
            CHECK.due("what was kept is gone", x.again(slot), LATE);
            CHECK.due("what was kept is gone", x.again(1 - slot), LATE);
        }
    }

    private static void keptOfANewObject() {
        SinkingArchive x = new SinkingArchive();
        CHECK.due("again(1)", x.again(1), LATE);
        CHECK.due("keep(1)", x.keep(1), 0);
        x.effort(0);
        x.decade();
        x.decade();
        CHECK.due("keep(0)", x.keep(0), 2);
        CHECK.due("again(1)", x.again(1), 0);
        CHECK.dueAbout("a new one", x, 2, 0, 0, 0, 9, 9, 0, 0, 0, 0);
        CHECK.due("again(0)", x.again(0), 2);
        CHECK.dueAbout("under water", x, 2, 0, 0, 2, 0, 0, 0, 0, 0, 0);
        CHECK.due("no floor is left", x.decade(), LATE);
    }

    // "keep RECORDS (KINDS, WORTH, too), WATER, EFFORT and what is LEFT, THE INDEX"
    private static void keepsAllThatIsNamed() {
        SinkingArchive x = Check.towerOf("T3999999R21900R13030R14901R14901Q20Q30");
        x.effort(50);
        x.decade();
        CHECK.due("anew(0, 1)", x.anew(0, 1), 2);
        CHECK.due("carry(2, 2)", x.carry(2, 2), 1);
        x.index(3, 0);
        x.index(1, 2);
        CHECK.due("keep(1)", x.keep(1), 1);
        x.carry(0, 2);
        x.decade();
        x.effort(7);
        x.mend();
        x.index(1, 0);
        CHECK.due("again(1)", x.again(1), 1);
        CHECK.dueAbout("as kept", x, 3, 4, 1, 1, 50, 49, 0, 1 + 3 + 3, 9, 38);
        CHECK.dueRecord("a skin on floor 1", x, 0, 2, 1, 9, 1, 1, 0, 0);
        CHECK.dueRecord("plain, drowned", x, 1, 1, 3, 0, 0, 0, 1, 2);
        CHECK.dueRecord("carried", x, 2, 1, 3, 9, 0, 2, 0, 1);
        CHECK.dueRecord("the index lies", x, 3, 1, 3, 9, 0, 1, 0, 0);
        CHECK.due("on floor 1", x.floor(1, 2), 9);
        CHECK.due("on floor 2", x.floor(2, 2), 4);
    }

    private static void keepsNoMore() {
        SinkingArchive x = Check.towerOf("T29999R10000");
        x.keep(0);
        Check.put(x, "R1");
        CHECK.due("again(0)", x.again(0), 0);
        CHECK.due("the text is not kept", x.about(9), 14);
        x.wipe();
        CHECK.due("again(0)", x.again(0), 0);
        CHECK.due("the text is not kept", x.about(9), 0);
    }

    // "(ACTS are none when one goes on)"
    private static void actsAreNone() {
        SinkingArchive x = Check.towerOf("T59999999999R10000");
        x.carry(0, 1);
        x.decade();
        CHECK.due("keep(0)", x.keep(0), 1);
        CHECK.due("acts stay when it is kept", x.about(6), 2);
        CHECK.due("undo()", x.undo(), 1);
        CHECK.due("again(0)", x.again(0), 1);
        CHECK.due("acts", x.about(6), 0);
        CHECK.due("undo()", x.undo(), LATE);
        CHECK.due("again(1)", x.again(1), LATE);
        x.decade();
        CHECK.due("again(1)", x.again(1), LATE);
        CHECK.due("acts stay when that is refused", x.about(6), 1);
        CHECK.due("again(2)", x.again(2), UNKNOWN);
        CHECK.due("acts stay when that is refused", x.about(6), 1);
        CHECK.due("undo()", x.undo(), 0);
        for (int i = 0; i < 4; i++) {
            x.decade();
        }
        CHECK.due("again(0)", x.again(0), 1);
        for (int i = 1; i <= 4; i++) {
            x.decade();
            CHECK.due("acts anew", x.about(6), i);
        }
    }

    private static void keptAnew() {
        SinkingArchive x = Check.towerOf("T29999R15001");
        x.index(0, 0);
        CHECK.due("keep(0)", x.keep(0), 0);
        x.decade();
        x.index(0, 1);
        CHECK.due("keep(0)", x.keep(0), 1);
        x.decade();
        CHECK.due("the later one", x.again(0), 1);
        CHECK.dueRecord("the later one", x, 0, 1, 4, 0, 0, 1, 0, 1);
        CHECK.due("water", x.about(3), 1);
    }

    private static void eachSlotAlone() {
        SinkingArchive x = Check.towerOf("T29999R15001");
        CHECK.due("keep(0)", x.keep(0), 0);
        x.decade();
        x.index(0, 0);
        x.effort(0);
        CHECK.due("keep(1)", x.keep(1), 1);
        for (int i = 0; i < 2; i++) {
            CHECK.due("again(0)", x.again(0), 0);
            CHECK.dueAbout("as kept", x, 2, 1, 0, 0, 9, 9, 0, 5, 0, 12);
            CHECK.due("the index", x.record(0, 6), 1);
            CHECK.due("again(1)", x.again(1), 1);
            CHECK.dueAbout("as kept", x, 2, 1, 0, 1, 0, 0, 0, 4, 0, 12);
            CHECK.due("the index", x.record(0, 6), 0);
        }
    }

    /** What one does behind `again`, undone or not, leaves the slot as it was. */
    private static void goneOnFromTwice() {
        SinkingArchive x = Check.towerOf("T3999999R15101R12010");
        x.keep(0);
        for (int i = 0; i < 3; i++) {
            CHECK.due("again(0)", x.again(0), 0);
            CHECK.dueAbout("as kept", x, 3, 2, 0, 0, 9, 9, 0, 7, 1, 20);
            CHECK.dueRecord("as kept", x, 0, 1, 5, 1, 0, 1, 0, 1);
            CHECK.dueRecord("as kept", x, 1, 1, 2, 0, 1, 0, 0, 0);
            x.carry(1, 1);
            x.decade();
            x.index(0, i);
            x.index(1, 2 - i);
            x.effort(i);
            if (i == 1) {
                x.undo();
            }
        }
    }

    private static void allUnderWater() {
        SinkingArchive x = Check.towerOf("T59999999999R15004");
        for (int i = 0; i < 5; i++) {
            CHECK.due("keep(0)", x.keep(0), i);
            x.decade();
        }
        CHECK.due("keep(1)", x.keep(1), 5);
        CHECK.due("again(0)", x.again(0), 4);
        CHECK.due("there", x.record(0, 5), 0);
        CHECK.due("again(1)", x.again(1), 5);
        CHECK.due("drowned", x.record(0, 5), 1);
        CHECK.due("no floor is left", x.decade(), LATE);
    }
}
