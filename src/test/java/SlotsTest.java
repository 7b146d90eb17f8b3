/** Promises 26 and 27: keep, again. */
public final class SlotsTest {
    private static final int[] WRONG = {-1, 2, Integer.MIN_VALUE, Integer.MAX_VALUE};
    private static final Check CHECK = new Check("SlotsTest");

    public static void main(String[] args) {
        refusals();
        allIsKept();
        keptOnce();
        CHECK.finish();
    }

    private static void refusals() {
        SinkingArchive x = Check.towerOf("T29999R11100");
        for (int slot : WRONG) {
            CHECK.due("keep(" + slot + ")", x.keep(slot), SinkingArchive.UNKNOWN);
            CHECK.due("again(" + slot + ")", x.again(slot), SinkingArchive.UNKNOWN);
        }
        CHECK.due("keep(1)", x.keep(1), 0);
        CHECK.due("the other one", x.again(0), SinkingArchive.LATE);
        CHECK.due("again(1)", x.again(1), 0);
    }

    private static void allIsKept() {
        SinkingArchive x = Check.towerOf("T3999999R22100R31130R14101R15101Q20Q30");
        x.effort(20);
        CHECK.due("decade()", x.decade(), 3);
        x.index(2, 2);
        CHECK.due("anew(0, 1)", x.anew(0, 1), 2);
        x.carry(0, 2);
        CHECK.due("keep(0)", x.keep(0), 1);
        CHECK.due("no act", x.about(6), 3);
        x.decade();
        x.effort(3);
        x.index(2, 0);
        x.index(0, 1);
        CHECK.due("keep(1)", x.keep(1), 2);
        CHECK.due("again(0)", x.again(0), 1);
        CHECK.dueAbout("as kept", x, 3, 4, 1, 1, 20, 18, 0, 2 + 3 + 4, 1, 38);
        CHECK.dueRecord("written anew", x, 0, 2, 2, 1, 1, 2, 0, 0);
        CHECK.dueRecord("plain now", x, 1, 3, 1, 1, 0, 0, 1, 0);
        CHECK.dueRecord("the index", x, 2, 1, 3, 1, 0, 1, 0, 2);
        CHECK.due("undo()", x.undo(), SinkingArchive.LATE);
        CHECK.due("cites stay", x.cites(2, 0), 1);
        CHECK.due("again(1)", x.again(1), 2);
        CHECK.dueAbout("as kept", x, 3, 4, 3, 2, 3, 3, 0, 2, 0, 38);
        CHECK.due("the index", x.record(2, 6), 0);
        CHECK.due("the index", x.record(0, 6), 1);
        CHECK.due("drowned", x.record(2, 5), 1);
    }

    /** What is gone on from stays kept as it was, whatever comes then. */
    private static void keptOnce() {
        SinkingArchive x = Check.towerOf("T3999999R15101R12102");
        x.keep(0);
        x.decade();
        x.index(1, 0);
        CHECK.due("again(0)", x.again(0), 0);
        x.decade();
        x.decade();
        CHECK.due("again(0)", x.again(0), 0);
        CHECK.dueRecord("as kept", x, 0, 1, 5, 1, 0, 1, 0, 1);
        CHECK.due("the index", x.record(1, 6), 2);
        CHECK.due("drowned", x.about(2), 0);
        x.decade();
        CHECK.due("kept anew", x.keep(0), 1);
        x.undo();
        CHECK.due("again(0)", x.again(0), 1);
        CHECK.due("worth", x.record(0, 1), 4);
        x.keep(1);
        x.again(0);
        x.again(1);
        CHECK.due("acts", x.about(6), 0);
    }
}
