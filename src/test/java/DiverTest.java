/** Promises 24 and 25: dive, dry. */
public final class DiverTest {
    private static final int[] WRONG = {-1, Integer.MIN_VALUE, Integer.MAX_VALUE};
    private static final Check CHECK = new Check("DiverTest");

    public static void main(String[] args) {
        diveRefused();
        diveByDepthAndKind();
        diveOfLikeOnes();
        dryRefused();
        dryFractions();
        CHECK.finish();
    }

    private static void dueDive(String when, SinkingArchive x, int m, int worth, int minutes, int set) {
        CHECK.due(when + ": dive(" + m + ", 0)", x.dive(m, 0), worth);
        CHECK.due(when + ": dive(" + m + ", 1)", x.dive(m, 1), minutes);
        CHECK.due(when + ": dive(" + m + ", 2)", x.dive(m, 2), set);
    }

    private static void diveRefused() {
        SinkingArchive x = Check.towerOf("T29999R11100");
        CHECK.due("dive(100, 0)", x.dive(100, 0), SinkingArchive.BAD);
        CHECK.due("dive(0, 3)", x.dive(0, 3), SinkingArchive.BAD);
        for (int wrong : WRONG) {
            CHECK.due("dive(" + wrong + ", 0)", x.dive(wrong, 0), SinkingArchive.BAD);
            CHECK.due("dive(0, " + wrong + ")", x.dive(0, wrong), SinkingArchive.BAD);
        }
        dueDive("nothing drowned", x, 99, 0, 0, 0);
    }

    private static void diveByDepthAndKind() {
        SinkingArchive x = Check.towerOf("T59999999999R39100R29110R19120R15101R11104");
        x.decade();
        // Depth 1: three minutes and more; 8 tenths of 9, 10 of a skin, nothing of a forged one.
        dueDive("too short", x, 3, 0, 0, 0);
        dueDive("the skin", x, 4, 90, 4, 2);
        dueDive("not both", x, 8, 90, 4, 2);
        dueDive("both", x, 9, 162, 9, 3);
        dueDive("no forged one", x, 99, 162, 9, 3);
        x.decade();
        dueDive("depth 2 and 1", x, 3, 32, 3, 8);
        dueDive("depth 2 and 1", x, 99, 90 + 54 + 32, 6 + 7 + 3, 11);
        x.decade();
        x.decade();
        x.decade();
        // Depth 5: nothing is whole but the skin; record 3 at depth 4, record 4 of no worth.
        dueDive("depth 5", x, 99, 90 + 4 * 2, 12 + 9, 10);
    }

    private static void diveOfLikeOnes() {
        SinkingArchive x = Check.towerOf("T29999R24100R14100R14100R38100R10100");
        x.decade();
        // 32 by 3 minutes is less time than 32 by 4; records 1 and 2 are alike: the least set.
        dueDive("least minutes, least set", x, 4, 32, 3, 2);
        dueDive("heavy one", x, 5, 64, 5, 8);
        dueDive("by less minutes than the two", x, 6, 64, 5, 8);
        dueDive("all that are worth it", x, 99, 32 * 3 + 64, 4 + 3 + 3 + 5, 15);
    }

    private static void dryRefused() {
        SinkingArchive x = Check.towerOf("T29999R11100R11101");
        CHECK.due("dry(2, ..)", x.dry(2, 1, 1, true), SinkingArchive.UNKNOWN);
        CHECK.due("dry(2, 0, 11)", x.dry(2, 0, 11, true), SinkingArchive.UNKNOWN);
        CHECK.due("d 0", x.dry(0, 0, 1, true), SinkingArchive.BAD);
        CHECK.due("d 10", x.dry(0, 10, 1, true), SinkingArchive.BAD);
        CHECK.due("x 11", x.dry(0, 1, 11, true), SinkingArchive.BAD);
        for (int wrong : WRONG) {
            CHECK.due("record " + wrong, x.dry(wrong, 1, 1, true), SinkingArchive.UNKNOWN);
            CHECK.due("d " + wrong, x.dry(0, wrong, 1, true), SinkingArchive.BAD);
            CHECK.due("x " + wrong, x.dry(0, 1, wrong, true), SinkingArchive.BAD);
        }
        x.decade();
        CHECK.due("drowned", x.dry(0, 1, 1, false), SinkingArchive.LATE);
        CHECK.due("drowned", x.dry(0, 10, 1, false), SinkingArchive.BAD);
        CHECK.due("there", x.dry(1, 1, 1, false), 1);
    }

    private static void dueDry(SinkingArchive x, int record, int d, int tenths, long above, long below) {
        String call = "dry(" + record + ", " + d + ", " + tenths;
        CHECK.due(call + ", true)", x.dry(record, d, tenths, true), above);
        CHECK.due(call + ", false)", x.dry(record, d, tenths, false), below);
    }

    private static void dryFractions() {
        SinkingArchive x = Check.towerOf("T59999999999R11100R11101R11102R11104");
        dueDry(x, 0, 1, 0, 0, 1);
        dueDry(x, 0, 9, 10, 0, 1);
        dueDry(x, 1, 1, 0, 1, 1);
        dueDry(x, 1, 1, 10, 0, 1);
        dueDry(x, 1, 1, 3, 7, 10);
        dueDry(x, 1, 1, 5, 1, 2);
        dueDry(x, 1, 2, 0, 0, 1);
        dueDry(x, 2, 1, 10, 1, 1);
        dueDry(x, 2, 2, 1, 81, 100);
        // Three decades, one double flood at most: 343 + 3 * 3 * 49 of 1000.
        dueDry(x, 3, 3, 3, 784 / 8, 1000 / 8);
        // Two decades up to two double floods.
        dueDry(x, 3, 2, 10, 1, 1);
        dueDry(x, 3, 3, 10, 0, 1);
        dueDry(x, 3, 4, 7, 81, 10000);
        dueDry(x, 3, 4, 2, 256, 625);
        dueDry(x, 3, 5, 0, 0, 1);
        x.decade();
        dueDry(x, 3, 1, 10, 1, 1);
        dueDry(x, 3, 3, 0, 1, 1);
        dueDry(x, 3, 3, 9, 1, 1000);
        // Up to one of two double: all but 9 * 9 of 100.
        dueDry(x, 3, 2, 9, 19, 100);
    }
}
