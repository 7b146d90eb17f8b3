/** Promises 16 to 18: most, least, planAt. */
public final class PlansTest {
    private static final int[] WRONG = {-1, 0, 4, Integer.MIN_VALUE, Integer.MAX_VALUE};
    private static final Check CHECK = new Check("PlansTest");

    public static void main(String[] args) {
        eachAlone();
        refusals();
        oneRecord();
        dampAhead();
        leftAndEffort();
        allAtOnce();
        firstOfLikeOnes();
        joinedForgedSkin();
        noFloorAnyMore();
        CHECK.finish();
    }

    private static void eachAlone() {
        String text = "T3999999R15100";
        CHECK.due("most alone", Check.towerOf(text).most(2), 4);
        CHECK.due("least alone", Check.towerOf(text).least(2), 2);
        CHECK.due("planAt alone", Check.towerOf(text).planAt(2, 0), 2);
    }

    private static void refusals() {
        SinkingArchive x = Check.towerOf("T29999R11100R11101R11101R11101R11101");
        for (int d : WRONG) {
            CHECK.due("most(" + d + ")", x.most(d), SinkingArchive.BAD);
            CHECK.due("least(" + d + ")", x.least(d), SinkingArchive.BAD);
            CHECK.due("planAt(" + d + ", 0)", x.planAt(d, 0), SinkingArchive.BAD);
            CHECK.due("planAt(" + d + ", 5)", x.planAt(d, 5), SinkingArchive.UNKNOWN);
        }
        CHECK.due("five are there", x.most(1), SinkingArchive.LATE);
        CHECK.due("five are there", x.least(1), SinkingArchive.LATE);
        CHECK.due("five are there", x.planAt(1, 0), SinkingArchive.LATE);
        CHECK.due("planAt(1, 5)", x.planAt(1, 5), SinkingArchive.UNKNOWN);
        CHECK.due("planAt(1, -1)", x.planAt(1, -1), SinkingArchive.UNKNOWN);
        x.decade();
        CHECK.due("four are", x.most(1), 0);
        CHECK.due("four are", x.least(1), 0);
        CHECK.due("a drowned one stays", x.planAt(1, 0), 0);
        CHECK.due("one that could stay", x.planAt(1, 1), 1);
        CHECK.due("no act", x.about(6), 1);
    }

    private static void plan(String when, SinkingArchive x, int d, int most, int least, int... floors) {
        // Each call stands for itself: another plan is asked for between them.
        int other = d % 3 + 1;
        for (int r = 0; r < floors.length; r++) {
            x.most(other);
            CHECK.due(when + ": planAt(" + d + ", " + r + ")", x.planAt(d, r), floors[r]);
        }
        x.most(other);
        CHECK.due(when + ": least(" + d + ")", x.least(d), least);
        x.least(other);
        CHECK.due(when + ": most(" + d + ")", x.most(d), most);
    }

    private static void oneRecord() {
        SinkingArchive x = Check.towerOf("T59999999999R21110");
        // A skin needs no more than to be above the water; it can wait for the last moment.
        plan("skin", x, 1, 1, 2, 1);
        plan("skin", x, 2, 1, 4, 1);
        plan("skin", x, 3, 1, 6, 1);
        x.effort(3);
        plan("one floor a decade", x, 3, 1, 6, 1);
        x.effort(1);
        plan("none", x, 1, 0, 0, 0);
        CHECK.due("nothing happened", x.record(0, 4), 0);
        CHECK.due("nothing was spent", x.about(5), 1);
    }

    private static void dampAhead() {
        SinkingArchive x = Check.towerOf("T59999999999R15100");
        // Two floors above the water behind the decade: nothing is lost.
        plan("dry", x, 1, 5, 2, 2);
        plan("dry", x, 2, 5, 3, 2);
        plan("dry", x, 3, 5, 4, 2);
        x.effort(1);
        plan("one loss a decade", x, 3, 2, 3, 1);
        // By 9 and then by 1 a decade it goes as little ahead as it can.
        x.effort(9);
        x.carry(0, 4);
        plan("nothing to do", x, 3, 5, 0, 4);
        x.undo();
        x.wipe();
        Check.put(x, "T499999999R15100");
        x.tower();
        plan("at the top damp comes behind the last decade", x, 3, 4, 3, 2);
    }

    private static void leftAndEffort() {
        SinkingArchive x = Check.towerOf("T59999999999R15110R15110");
        x.effort(3);
        x.carry(0, 3);
        // Nothing is left now: record 1 drowns; record 0 stays up.
        plan("nothing left", x, 1, 5, 0, 3, 0);
        x.effort(4);
        plan("one left", x, 2, 10, 2, 3, 1);
        plan("one left", x, 3, 10, 3, 3, 1);
    }

    private static void allAtOnce() {
        // Floor 1 bears just one; record 0 goes there while record 1 leaves it.
        SinkingArchive x = Check.towerOf("T3010101R13110R14111");
        plan("one steps up behind the other", x, 1, 7, 2, 1, 2);
        CHECK.due("alone it could not", x.carry(0, 1), SinkingArchive.LATE);
        plan("one is lost", x, 2, 4, 1, 0, 1);
    }

    private static void firstOfLikeOnes() {
        SinkingArchive x = Check.towerOf("T3030102R13110R13110R13110");
        // Two find room for two decades; the first record is the one left behind.
        plan("three alike", x, 1, 9, 5, 1, 2, 2);
        plan("three alike", x, 2, 6, 4, 0, 1, 2);
        x.effort(1);
        plan("by one alone", x, 1, 3, 1, 0, 0, 1);
    }

    private static void joinedForgedSkin() {
        SinkingArchive x = Check.towerOf("T3999999R19100R10130R19120R11110");
        // The pair keeps 9 by two floors of two each, the forged one nothing; the skin 1 by one floor.
        plan("all", x, 1, 10, 5, 2, 2, 0, 1);
        x.effort(4);
        plan("the pair dry or damp with the skin", x, 1, 9, 3, 1, 1, 0, 1);
        x.effort(1);
        plan("the skin alone", x, 1, 1, 1, 0, 0, 0, 1);
    }

    private static void noFloorAnyMore() {
        SinkingArchive x = Check.towerOf("T29999R19111");
        plan("two decades drown all", x, 2, 0, 0, 1);
        plan("a third does nothing", x, 3, 0, 0, 1);
        x.decade();
        x.decade();
        plan("under water", x, 1, 0, 0, 1);
        plan("under water", x, 3, 0, 0, 1);
    }
}
