/** Promises 19 to 23: atHand, index, lookUp, lies, mend. */
public final class AskedTest {
    private static final int[] WRONG = {-1, Integer.MIN_VALUE, Integer.MAX_VALUE};
    private static final Check CHECK = new Check("AskedTest");

    public static void main(String[] args) {
        atHand();
        atHandAboveWater();
        index();
        lookUp();
        liesAndMend();
        CHECK.finish();
    }

    private static void atHand() {
        SinkingArchive x = Check.towerOf("T3050412R51202R41502R31302R11101");
        // Weights 4 and 1 on floor 0, 3 on floor 1, 5 on floor 2.
        CHECK.due("atHand()", x.atHand(), 7);
        CHECK.due("steps as it is", x.about(8), 2 * (2 + 5 + 3) + 1);
        CHECK.due("nothing moved", x.record(0, 4), 2);
        x.wipe();
        Check.put(x, "T3050410R21202R21532R11101");
        x.tower();
        CHECK.due("joined ones do so together", x.atHand(), 0);
        x.wipe();
        Check.put(x, "T3030110R21202R21532R11100");
        x.tower();
        CHECK.due("they fit on the top alone", x.atHand(), 14);
        x.wipe();
        Check.put(x, "T3060012R61202R61902R11900");
        x.tower();
        CHECK.due("a landing bears nothing", x.atHand(), 22);
        atHandOfMany();
    }

    private static void atHandOfMany() {
        SinkingArchive x = Check.towerOf("T29999R11101R11101R11101R11101R11101R11101R11100");
        CHECK.due("seven are there", x.atHand(), SinkingArchive.LATE);
        x.decade();
        CHECK.due("six are there", x.atHand(), 0);
        x.decade();
        CHECK.due("none is there", x.atHand(), 0);
    }

    private static void atHandAboveWater() {
        SinkingArchive x = Check.towerOf("T499030499R31500R31203R21303");
        CHECK.due("atHand()", x.atHand(), 0);
        x.decade();
        // Floor 1 bears 3, floor 2 bears 4, one lies under water.
        CHECK.due("above the water", x.atHand(), 2);
        x.decade();
        CHECK.due("floor 2 has no steps", x.atHand(), 2);
        CHECK.due("steps as they are", x.about(8), 5);
        x.decade();
        CHECK.due("the last floor", x.atHand(), 0);
    }

    private static void index() {
        SinkingArchive x = Check.towerOf("T3999999R11101R11102");
        CHECK.due("index(0, 2)", x.index(0, 2), 1);
        CHECK.due("index(0, 0)", x.index(0, 0), 2);
        CHECK.due("what it says", x.record(0, 6), 0);
        CHECK.due("of the other one", x.record(1, 6), 2);
        CHECK.due("index(2, 0)", x.index(2, 0), SinkingArchive.UNKNOWN);
        CHECK.due("index(0, 3)", x.index(0, 3), SinkingArchive.UNKNOWN);
        for (int wrong : WRONG) {
            CHECK.due("index(" + wrong + ", 0)", x.index(wrong, 0), SinkingArchive.UNKNOWN);
            CHECK.due("index(0, " + wrong + ")", x.index(0, wrong), SinkingArchive.UNKNOWN);
        }
        CHECK.due("what it says", x.record(0, 6), 0);
        CHECK.due("no act", x.about(6), 0);
        x.decade();
        x.decade();
        CHECK.due("of a drowned one", x.index(0, 2), 0);
        CHECK.due("a floor under water", x.index(1, 1), 2);
        CHECK.due("what it says", x.record(1, 6), 1);
    }

    private static void lookUp() {
        SinkingArchive x = Check.towerOf("T59999999999R11103R11100R11104");
        CHECK.due("where the index says", x.lookUp(0), 1);
        x.index(0, 0);
        CHECK.due("0, then 1, 2, 3", x.lookUp(0), 4);
        x.index(0, 4);
        CHECK.due("4, then 0, 1, 2, 3", x.lookUp(0), 5);
        x.index(0, 2);
        CHECK.due("2, then 0, 1, 3", x.lookUp(0), 4);
        x.index(2, 1);
        CHECK.due("1, then 0, 2, 3, 4", x.lookUp(2), 5);
        CHECK.due("lookUp(3)", x.lookUp(3), SinkingArchive.UNKNOWN);
        for (int wrong : WRONG) {
            CHECK.due("lookUp(" + wrong + ")", x.lookUp(wrong), SinkingArchive.UNKNOWN);
        }
        x.decade();
        CHECK.due("drowned", x.lookUp(1), SinkingArchive.LATE);
        x.decade();
        CHECK.due("it says 2, the lowest", x.lookUp(0), 2);
        CHECK.due("it says 1, under water: 2, 3, 4", x.lookUp(2), 3);
        x.decade();
        x.decade();
        CHECK.due("one floor is left", x.lookUp(2), 1);
        CHECK.due("the index stays", x.record(2, 6), 1);
    }

    private static void dueLies(String when, SinkingArchive x, int upper, int lower) {
        CHECK.due(when + ": lies(true)", x.lies(true), upper);
        CHECK.due(when + ": lies(false)", x.lies(false), lower);
    }

    private static void liesAndMend() {
        SinkingArchive x = Check.towerOf("T3999999R11100R11101R11102R11101R11102");
        dueLies("as it is", x, 0, 1);
        x.index(1, 0);
        dueLies("one", x, 1, 5);
        x.index(0, 1);
        x.decade();
        dueLies("of the drowned it does not count", x, 1, 4);
        x.carry(2, 2);
        x.carry(3, 2);
        dueLies("least terms", x, 1, 2);
        CHECK.due("mend()", x.mend(), 2);
        CHECK.due("mended", x.record(1, 6), 1);
        CHECK.due("mended", x.record(3, 6), 2);
        CHECK.due("of a drowned one it is not", x.record(0, 6), 1);
        CHECK.due("mend()", x.mend(), 0);
        dueLies("mended", x, 0, 1);
        CHECK.due("acts", x.about(6), 2);
        for (int r = 1; r < 5; r++) {
            x.index(r, 0);
        }
        dueLies("all", x, 1, 1);
        x.decade();
        x.decade();
        dueLies("nothing is there", x, 0, 1);
        CHECK.due("mend()", x.mend(), 0);
    }
}
