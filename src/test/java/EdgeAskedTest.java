/** Part 4 of the document and promises 19 to 25: each sentence that names a bound, on both sides of it. */
public final class EdgeAskedTest {
    private static final int UNKNOWN = SinkingArchive.UNKNOWN, BAD = SinkingArchive.BAD, LATE = SinkingArchive.LATE;
    private static final int[] EXTREMES = {Integer.MIN_VALUE, Integer.MAX_VALUE, -1, 1 << 30, -1 << 30, 256, 65536};
    private static final Check CHECK = new Check("EdgeAskedTest");

    public static void main(String[] args) {
        stepsOfWhatIsThere();
        atHandSixAtMost();
        atHandAsFloorsBear();
        atHandNotUnderWater();
        atHandJoinedTogether();
        atHandOfNothing();
        indexOfAnyRecordAndFloor();
        indexAsItIsAtFirst();
        lookUpWhereItSays();
        lookUpThenTheOthers();
        lookUpUnderWater();
        lookUpRefused();
        liesNoughtByOne();
        liesInLeastTerms();
        liesOfWhatIsThere();
        mendAllThatIsThere();
        diveMinutes();
        diveWhat();
        diveJustInTime();
        diveTenthsByDepth();
        diveForgedNought();
        diveLikeOnes();
        diveOfNothing();
        diveAllEight();
        dryDecadesAndTenths();
        dryRefusals();
        dryNoFloodsAndFloodsAlways();
        dryByTheFloor();
        dryBehindNineDecades();
        CHECK.finish();
    }

    // "STEPS: of each RECORD that is there ASKED times its FLOOR less WATER, together."
    private static void stepsOfWhatIsThere() {
        SinkingArchive x = Check.towerOf("T59900000099" + "R10904".repeat(7) + "R10900");
        for (int water = 0; water <= 4; water++) {
            CHECK.due("water " + water, x.about(8), 7 * 9 * (4 - water));
            x.decade();
        }
        CHECK.due("none is there", x.about(8), 0);
    }

    // "LATE: more than six RECORDS are there."
    private static void atHandSixAtMost() {
        String text = "T3999901";
        for (int n = 1; n <= 8; n++) {
            text += "R10901";
            CHECK.due(n + " are there", Check.towerOf(text).atHand(), n <= 6 ? 0 : LATE);
        }
        SinkingArchive x = Check.towerOf("T3999999" + "R10100R10101" + "R10102".repeat(6));
        CHECK.due("eight are there", x.atHand(), LATE);
        x.decade();
        CHECK.due("seven are there", x.atHand(), LATE);
        x.decade();
        CHECK.due("six are there", x.atHand(), 0);
        x.undo();
        CHECK.due("seven are there again", x.atHand(), LATE);
        CHECK.due("joined ones are seven", Check.towerOf("T29900R10000" + "R10030".repeat(6)).atHand(), LATE);
        CHECK.due("joined ones are six", Check.towerOf("T29900R10000" + "R10030".repeat(5)).atHand(), 0);
    }

    // "(.. FLOORS BEAR as they do)"
    private static void atHandAsFloorsBear() {
        CHECK.due("2 and 3 of 5", Check.towerOf("T20509R20101R30201").atHand(), 0);
        CHECK.due("3 of 4", Check.towerOf("T20409R20101R30201").atHand(), 1);
        CHECK.due("3 of 3", Check.towerOf("T20309R20101R30201").atHand(), 1);
        CHECK.due("2 of 2", Check.towerOf("T20209R20101R30201").atHand(), 2);
        CHECK.due("none of 1", Check.towerOf("T20109R20101R30201").atHand(), 3);
        CHECK.due("a landing", Check.towerOf("T3000205R20102R30202").atHand(), 1 + 4);
        CHECK.due("all landings but the top", Check.towerOf("T50000000099" + "R10904".repeat(6)).atHand(), 6 * 36);
    }

    // "if all that is there stood anywhere where it is not under water"
    private static void atHandNotUnderWater() {
        SinkingArchive x = Check.towerOf("T59901010199R10900R10904R10904R10904R10904");
        int[] want = {0, 0 + 9 + 18 + 27, 0 + 9 + 18 + 18, 0 + 9 + 9 + 9, 0};
        for (int water = 0; water <= 4; water++) {
            CHECK.due("water " + water, x.atHand(), want[water]);
            x.decade();
        }
        CHECK.due("none is there", x.atHand(), 0);
    }

    // "(JOINED ones together as they are ..)"
    private static void atHandJoinedTogether() {
        CHECK.due("both on 5", Check.towerOf("T20509R20101R30231").atHand(), 0);
        CHECK.due("neither on 4", Check.towerOf("T20409R20101R30231").atHand(), 3);
        CHECK.due("six on 54", Check.towerOf("T25454R90901" + "R90931".repeat(5)).atHand(), 0);
        CHECK.due("six not on 53", Check.towerOf("T25354R90901" + "R90931".repeat(5)).atHand(), 54);
    }

    private static void atHandOfNothing() {
        CHECK.due("a new object", new SinkingArchive().atHand(), 0);
        SinkingArchive x = Check.towerOf("T29999" + "R10900".repeat(8));
        x.decade();
        CHECK.due("eight drowned", x.atHand(), 0);
        x.decade();
        CHECK.due("no floor is left", x.atHand(), 0);
    }

    // "THE INDEX says otherwise of a RECORD: what it said. UNKNOWN: record, floor."
    private static void indexOfAnyRecordAndFloor() {
        SinkingArchive x = Check.towerOf("T59900000099R10004R10000");
        int said = 4;
        for (int floor = 0; floor < 5; floor++) {
            CHECK.due("index(0, " + floor + ")", x.index(0, floor), said);
            said = floor;
        }
        CHECK.due("index(0, 5)", x.index(0, 5), UNKNOWN);
        CHECK.due("index(2, 4)", x.index(2, 4), UNKNOWN);
        for (int extreme : EXTREMES) {
            CHECK.due("index(0, " + extreme + ")", x.index(0, extreme), UNKNOWN);
            CHECK.due("index(" + extreme + ", 0)", x.index(extreme, 0), UNKNOWN);
            CHECK.due("index(" + extreme + ", " + extreme + ")", x.index(extreme, extreme), UNKNOWN);
        }
        x.decade();
        CHECK.due("of a drowned one", x.index(1, 3), 0);
        CHECK.due("a floor under water", x.index(0, 0), 4);
        CHECK.due("what it says", x.record(1, 6), 3);
        CHECK.due("what it says", x.record(0, 6), 0);
    }

    // "(as it is, at first)"
    private static void indexAsItIsAtFirst() {
        SinkingArchive x = Check.towerOf("T59999999999R10000R10004R10002");
        CHECK.due("of 0", x.record(0, 6), 0);
        CHECK.due("of 1", x.record(1, 6), 4);
        CHECK.due("of 2", x.record(2, 6), 2);
        x.carry(0, 4);
        CHECK.due("it stays so", x.record(0, 6), 0);
    }

    // "on the one THE INDEX says, if that is not under water"
    private static void lookUpWhereItSays() {
        SinkingArchive x = Check.towerOf("T59999999999R10000R10001R10002R10003R10004");
        for (int r = 0; r < 5; r++) {
            CHECK.due("where it is", x.lookUp(r), 1);
        }
    }

    // "then on the others that are not, from the lowest on, till it is there"
    private static void lookUpThenTheOthers() {
        SinkingArchive x = Check.towerOf("T59999999999R10000R10001R10002R10003R10004");
        for (int r = 0; r < 5; r++) {
            for (int says = 0; says < 5; says++) {
                x.index(r, says);
                // A floor below it is looked at in any case, one above it only by the index.
                int want = says == r ? 1 : says < r ? r + 1 : r + 2;
                CHECK.due("it is on " + r + ", the index says " + says, x.lookUp(r), want);
            }
        }
    }

    private static void lookUpUnderWater() {
        for (int water = 1; water <= 4; water++) {
            SinkingArchive x = Check.towerOf("T59999999999R10004");
            for (int i = 0; i < water; i++) {
                x.decade();
            }
            for (int says = 0; says < 5; says++) {
                x.index(0, says);
                CHECK.due("water " + water + ", the index says " + says, x.lookUp(0), says == 4 ? 1 : 5 - water);
            }
        }
    }

    // "LOOKED UP. UNKNOWN; LATE: it is DROWNED."
    private static void lookUpRefused() {
        SinkingArchive x = Check.towerOf("T29999R10000R10001");
        CHECK.due("lookUp(2)", x.lookUp(2), UNKNOWN);
        for (int extreme : EXTREMES) {
            CHECK.due("lookUp(" + extreme + ")", x.lookUp(extreme), UNKNOWN);
        }
        x.decade();
        CHECK.due("drowned", x.lookUp(0), LATE);
        CHECK.due("not drowned", x.lookUp(1), 1);
        x.decade();
        CHECK.due("drowned", x.lookUp(1), LATE);
        CHECK.due("lookUp(2)", x.lookUp(2), UNKNOWN);
        CHECK.due("none", new SinkingArchive().lookUp(0), UNKNOWN);
    }

    private static void dueLies(String when, SinkingArchive x, int upper, int lower) {
        CHECK.due(when + ": lies(true)", x.lies(true), upper);
        CHECK.due(when + ": lies(false)", x.lies(false), lower);
    }

    // "(0 by 1 if nothing is there)"
    private static void liesNoughtByOne() {
        dueLies("a new object", new SinkingArchive(), 0, 1);
        dueLies("no records", Check.towerOf("T29999"), 0, 1);
        SinkingArchive x = Check.towerOf("T29999R10000R10000");
        dueLies("no lies", x, 0, 1);
        x.index(0, 1);
        dueLies("one of two", x, 1, 2);
        x.decade();
        dueLies("all drowned", x, 0, 1);
    }

    // "FRACTIONS are told above (upper = true), below, in least terms."
    private static void liesInLeastTerms() {
        int[][] want = {{0, 1}, {1, 8}, {1, 4}, {3, 8}, {1, 2}, {5, 8}, {3, 4}, {7, 8}, {1, 1}};
        SinkingArchive x = Check.towerOf("T29900" + "R10000".repeat(8));
        for (int n = 0; n <= 8; n++) {
            dueLies(n + " of eight", x, want[n][0], want[n][1]);
            x.index(n, 1);
        }
        x = Check.towerOf("T29900" + "R10000".repeat(6));
        for (int n = 0; n < 4; n++) {
            x.index(n, 1);
        }
        dueLies("four of six", x, 2, 3);
    }

    // "LIES: of RECORDS that are there those that are not where THE INDEX says, by all that are there"
    private static void liesOfWhatIsThere() {
        SinkingArchive x = Check.towerOf("T3999999R10000R10001R10002");
        x.index(0, 2);
        x.index(1, 2);
        dueLies("two of three", x, 2, 3);
        x.decade();
        dueLies("one of two", x, 1, 2);
        x.decade();
        dueLies("none of one", x, 0, 1);
        x.index(2, 0);
        dueLies("one of one", x, 1, 1);
    }

    // "THE INDEX says of all that is there where it is: of how many it did not."
    private static void mendAllThatIsThere() {
        CHECK.due("a new object", new SinkingArchive().mend(), 0);
        SinkingArchive x = Check.towerOf("T29999" + "R10000".repeat(4) + "R10001".repeat(4));
        CHECK.due("of none", x.mend(), 0);
        for (int r = 0; r < 8; r++) {
            x.index(r, r < 4 ? 1 : 0);
        }
        CHECK.due("of all", x.mend(), 8);
        CHECK.due("of none any more", x.mend(), 0);
        for (int r = 0; r < 8; r++) {
            CHECK.due("what it says", x.record(r, 6), r < 4 ? 0 : 1);
            x.index(r, r < 4 ? 1 : 0);
        }
        x.decade();
        CHECK.due("of those that are there", x.mend(), 4);
        CHECK.due("of a drowned one it stays", x.record(3, 6), 1);
        CHECK.due("mended", x.record(4, 6), 1);
        x.index(4, 0);
        x.decade();
        CHECK.due("nothing is there", x.mend(), 0);
        CHECK.due("it stays", x.record(4, 6), 0);
    }

    private static void dueDive(String when, SinkingArchive x, int m, int worth, int minutes, int set) {
        CHECK.due(when + ": dive(" + m + ", 0)", x.dive(m, 0), worth);
        CHECK.due(when + ": dive(" + m + ", 1)", x.dive(m, 1), minutes);
        CHECK.due(when + ": dive(" + m + ", 2)", x.dive(m, 2), set);
    }

    // "A DIVER has m minutes (0 .. 99)". "BAD: m".
    private static void diveMinutes() {
        SinkingArchive x = Check.towerOf("T29999R19000");
        dueDive("nothing drowned", x, 0, 0, 0, 0);
        dueDive("nothing drowned", x, 99, 0, 0, 0);
        CHECK.due("dive(-1, 0)", x.dive(-1, 0), BAD);
        CHECK.due("dive(100, 0)", x.dive(100, 0), BAD);
        for (int m : EXTREMES) {
            CHECK.due("dive(" + m + ", 0)", x.dive(m, 0), BAD);
        }
        x.decade();
        dueDive("no time", x, 0, 0, 0, 0);
        dueDive("all the time", x, 99, 72, 3, 1);
        CHECK.due("dive(100, 0)", x.dive(100, 0), BAD);
    }

    // "tenths times WORTH (what = 0), minutes (1), the set (2). BAD: .. what"
    private static void diveWhat() {
        SinkingArchive x = Check.towerOf("T29999R12010R19000");
        x.decade();
        int[] want = {92, 6, 3};
        for (int what = 0; what < 3; what++) {
            CHECK.due("dive(9, " + what + ")", x.dive(9, what), want[what]);
        }
        CHECK.due("dive(9, 3)", x.dive(9, 3), BAD);
        for (int what : EXTREMES) {
            CHECK.due("dive(9, " + what + ")", x.dive(9, what), BAD);
            CHECK.due("dive(" + what + ", " + what + ")", x.dive(what, what), BAD);
        }
    }

    // "to fetch a DROWNED RECORD takes twice how deep it lies (WATER less its FLOOR), and its weight"
    private static void diveJustInTime() {
        for (int water = 1; water <= 5; water++) {
            for (int w = 1; w <= 9; w += 4) {
                SinkingArchive x = Check.towerOf("T59999999999R" + w + "1010");
                for (int i = 0; i < water; i++) {
                    x.decade();
                }
                int takes = 2 * water + w;
                dueDive("one minute too few", x, takes - 1, 0, 0, 0);
                dueDive("just in time", x, takes, 10, takes, 1);
            }
        }
        // From each floor to the water above all.
        for (int floor = 0; floor < 5; floor++) {
            SinkingArchive x = Check.towerOf("T59999999999R1101" + floor);
            for (int i = 0; i < 5; i++) {
                x.decade();
            }
            int takes = 2 * (5 - floor) + 1;
            dueDive("one minute too few", x, takes - 1, 0, 0, 0);
            dueDive("just in time", x, takes, 10, takes, 1);
        }
        // Two together: 3 and 4 minutes.
        SinkingArchive x = Check.towerOf("T29999R11000R22000");
        x.decade();
        dueDive("the better one", x, 6, 16, 4, 2);
        dueDive("both", x, 7, 24, 7, 3);
        dueDive("the first one", x, 3, 8, 3, 1);
    }

    // "(10 at first, less 2 for each FLOOR of depth; SKIN 10; 0 at least)"
    private static void diveTenthsByDepth() {
        SinkingArchive x = Check.towerOf("T59999999999R19000");
        SinkingArchive skin = Check.towerOf("T59999999999R19010");
        int[] want = {0, 72, 54, 36, 18, 0};
        for (int water = 0; water <= 5; water++) {
            boolean worthIt = want[water] > 0;
            dueDive("depth " + water, x, 99, want[water], worthIt ? 1 + 2 * water : 0, worthIt ? 1 : 0);
            boolean drowned = water > 0;
            dueDive("a skin, depth " + water, skin, 99, drowned ? 90 : 0, drowned ? 1 + 2 * water : 0, drowned ? 1 : 0);
            x.decade();
            skin.decade();
        }
    }

    // "tenths times WORTH (FORGED 0)"
    private static void diveForgedNought() {
        SinkingArchive x = Check.towerOf("T29999R19020R10000R10010");
        x.decade();
        dueDive("nothing of worth", x, 99, 0, 0, 0);
        x = Check.towerOf("T29999R19020R11000R19030");
        x.decade();
        dueDive("a joined one, too", x, 99, 8 + 72, 6, 6);
    }

    // "of like ones with least minutes, then the least set"
    private static void diveLikeOnes() {
        SinkingArchive x = Check.towerOf("T29999R11000R11000");
        x.decade();
        dueDive("the least set", x, 5, 8, 3, 1);
        dueDive("both", x, 6, 16, 6, 3);
        x = Check.towerOf("T29999R21000R11000R11000");
        x.decade();
        dueDive("least minutes", x, 4, 8, 3, 2);
        dueDive("least minutes of two", x, 7, 16, 6, 6);
        // 16 by record 2 alone takes 5, by records 0 and 1 it takes 6.
        x = Check.towerOf("T29999R11000R11000R32000");
        x.decade();
        dueDive("least minutes ahead of the least set", x, 6, 16, 5, 4);
        // 16 by record 2 alone takes 6, too: then the set of 0 and 1 is the least.
        x = Check.towerOf("T29999R11000R11000R42000");
        x.decade();
        dueDive("the least set", x, 6, 16, 6, 3);
    }

    private static void diveOfNothing() {
        SinkingArchive x = new SinkingArchive();
        dueDive("a new object", x, 0, 0, 0, 0);
        dueDive("a new object", x, 99, 0, 0, 0);
        x.decade();
        x.decade();
        dueDive("under water", x, 99, 0, 0, 0);
    }

    private static void diveAllEight() {
        SinkingArchive x = Check.towerOf("T3990000" + "R99010".repeat(8));
        x.decade();
        dueDive("88 minutes", x, 88, 8 * 90, 88, 255);
        dueDive("one less", x, 87, 7 * 90, 77, 127);
        x.decade();
        dueDive("104 minutes are too many", x, 99, 7 * 90, 91, 127);
    }

    private static void dueDry(SinkingArchive x, int record, int d, int tenths, long above, long below) {
        String call = "dry(" + record + ", " + d + ", " + tenths;
        CHECK.due(call + ", true)", x.dry(record, d, tenths, true), above);
        CHECK.due(call + ", false)", x.dry(record, d, tenths, false), below);
    }

    // "FLOODS by x tenths (0 .. 10)"; "behind d DECADES (1 .. 9)". "BAD: d, x".
    private static void dryDecadesAndTenths() {
        SinkingArchive x = Check.towerOf("T29999R10001");
        for (int d = -1; d <= 11; d++) {
            for (int tenths = -1; tenths <= 12; tenths++) {
                boolean bad = d < 1 || d > 9 || tenths < 0 || tenths > 10;
                long upper = x.dry(0, d, tenths, true);
                CHECK.due("dry(0, " + d + ", " + tenths + ") is refused", upper < 0 ? upper : 0, bad ? BAD : 0);
                long lower = x.dry(0, d, tenths, false);
                CHECK.due("dry(0, " + d + ", " + tenths + ") is refused", lower < 0 ? lower : 0, bad ? BAD : 0);
            }
        }
        for (int extreme : EXTREMES) {
            CHECK.due("d " + extreme, x.dry(0, extreme, 5, true), BAD);
            CHECK.due("x " + extreme, x.dry(0, 1, extreme, true), BAD);
            CHECK.due("both " + extreme, x.dry(0, extreme, extreme, false), BAD);
        }
    }

    // "UNKNOWN: record; BAD: d, x; LATE: it is DROWNED."
    private static void dryRefusals() {
        SinkingArchive x = Check.towerOf("T29999R10000R10001");
        x.decade();
        CHECK.due("drowned", x.dry(0, 1, 0, true), LATE);
        CHECK.due("drowned", x.dry(0, 9, 10, false), LATE);
        CHECK.due("BAD ahead of LATE", x.dry(0, 0, 0, true), BAD);
        CHECK.due("BAD ahead of LATE", x.dry(0, 10, 0, true), BAD);
        CHECK.due("BAD ahead of LATE", x.dry(0, 1, 11, true), BAD);
        CHECK.due("BAD ahead of LATE", x.dry(0, 1, -1, true), BAD);
        CHECK.due("not drowned", x.dry(1, 1, 0, true), 0);
        CHECK.due("UNKNOWN", x.dry(2, 1, 0, true), UNKNOWN);
        CHECK.due("UNKNOWN ahead of BAD", x.dry(2, 0, 11, true), UNKNOWN);
        for (int extreme : EXTREMES) {
            CHECK.due("record " + extreme, x.dry(extreme, 1, 0, false), UNKNOWN);
            CHECK.due("UNKNOWN ahead of BAD", x.dry(extreme, extreme, extreme, false), UNKNOWN);
        }
        CHECK.due("none", new SinkingArchive().dry(0, 1, 0, true), UNKNOWN);
    }

    // "in each DECADE two FLOORS go under instead of one": never by 0 tenths, always by 10.
    private static void dryNoFloodsAndFloodsAlways() {
        SinkingArchive x = Check.towerOf("T59999999999R10000R10001R10002R10003R10004");
        for (int floor = 0; floor < 5; floor++) {
            for (int d = 1; d <= 9; d++) {
                dueDry(x, floor, d, 0, d <= floor ? 1 : 0, 1);
                dueDry(x, floor, d, 10, 2 * d <= floor ? 1 : 0, 1);
            }
        }
    }

    // "the chance that a RECORD, if it stays, is not under water behind d DECADES"
    private static void dryByTheFloor() {
        SinkingArchive x = Check.towerOf("T59999999999R10000R10001R10002R10003R10004");
        dueDry(x, 0, 1, 1, 0, 1);
        dueDry(x, 1, 1, 1, 9, 10);
        dueDry(x, 1, 1, 9, 1, 10);
        dueDry(x, 1, 1, 5, 1, 2);
        dueDry(x, 1, 2, 5, 0, 1);
        dueDry(x, 2, 1, 1, 1, 1);
        dueDry(x, 2, 2, 1, 81, 100);
        dueDry(x, 2, 2, 9, 1, 100);
        dueDry(x, 3, 1, 9, 1, 1);
        dueDry(x, 3, 2, 1, 99, 100);
        dueDry(x, 3, 2, 9, 19, 100);
        dueDry(x, 3, 3, 1, 729, 1000);
        dueDry(x, 4, 2, 9, 1, 1);
        // One double flood of three at most: 9 * 9 * 9 and three times 9 * 9 of 1000.
        dueDry(x, 4, 3, 1, 243, 250);
        dueDry(x, 4, 3, 5, 1, 2);
        dueDry(x, 4, 4, 1, 6561, 10000);
        dueDry(x, 4, 4, 5, 1, 16);
        dueDry(x, 4, 5, 1, 0, 1);
        // By a higher water the same floors are less far above it.
        x.decade();
        dueDry(x, 1, 1, 0, 0, 1);
        dueDry(x, 4, 3, 1, 729, 1000);
        dueDry(x, 4, 2, 1, 99, 100);
        x.decade();
        x.decade();
        dueDry(x, 4, 1, 3, 7, 10);
        dueDry(x, 4, 2, 0, 0, 1);
        x.decade();
        dueDry(x, 4, 1, 0, 0, 1);
    }

    private static void dryBehindNineDecades() {
        SinkingArchive x = Check.towerOf("T59999999999R10004");
        for (int tenths = 0; tenths <= 10; tenths++) {
            dueDry(x, 0, 9, tenths, 0, 1);
            dueDry(x, 0, 5, tenths, 0, 1);
        }
    }
}
