/** Part 2 of the document and promises 6 to 15: each sentence that names a bound, on both sides of it. */
public final class EdgeActsTest {
    private static final int UNKNOWN = SinkingArchive.UNKNOWN, BAD = SinkingArchive.BAD, LATE = SinkingArchive.LATE;
    private static final int[] EXTREMES = {Integer.MIN_VALUE, Integer.MAX_VALUE, -1, 1 << 30, -1 << 30, 256, 65536};
    private static final String EIGHT_JOINED = "R90000" + "R90030".repeat(7);
    private static final Check CHECK = new Check("EdgeActsTest");

    public static void main(String[] args) {
        aboutNoughtToNine();
        aboutEachAlone();
        floorNoughtToTwo();
        floorUnderWater();
        recordNoughtToSix();
        citesOfAll();
        waterIsNoughtAtFirst();
        drownsOnFloorWaterAlone();
        decadeAsLongAsSomeFloorIsLeft();
        dampOneLessNoughtAtLeast();
        dampButSkin();
        dampBehindTheLastFloor();
        effortNoughtToNinetyNine();
        effortLeftNoughtAtLeast();
        effortIsNoAct();
        leftIsAllWhenADecadeIsOver();
        carryToAHigherFloor();
        carryByWhatIsLeft();
        carryByWhatItBears();
        carryAllEight();
        carryDrownedOnes();
        togetherAlone();
        togetherAllEight();
        togetherAgainAndAgain();
        togetherBesideADrownedOne();
        keptOfForgedNought();
        actsTenAtMost();
        actsOfEachSort();
        undoNone();
        undoIndexStays();
        undoEffort();
        anewTwoOrMore();
        anewThatAreThere();
        anewOnAFloorThatBears();
        anewNotUnderWater();
        anewOfOneThatIsThere();
        anewWorthAsItDrowned();
        anewJoinedToNone();
        CHECK.finish();
    }

    // "FLOORS (what = 0), .. bytes of THE TEXT (9). BAD."
    private static void aboutNoughtToNine() {
        SinkingArchive x = Check.towerOf("T3201000R23410R34501");
        int[] want = {3, 2, 0, 0, 9, 9, 0, 3 + 4, 5, 20};
        for (int what = 0; what < 10; what++) {
            CHECK.due("about(" + what + ")", x.about(what), want[what]);
        }
        CHECK.due("about(10)", x.about(10), BAD);
        for (int what : EXTREMES) {
            CHECK.due("about(" + what + ")", x.about(what), BAD);
        }
    }

    private static void aboutEachAlone() {
        SinkingArchive x = Check.towerOf("T3999999R23410R34501R11102");
        x.effort(20);
        CHECK.due("carry(0, 1)", x.carry(0, 1), 2);
        CHECK.due("decade()", x.decade(), 0);
        CHECK.due("carry(0, 2)", x.carry(0, 2), 2);
        CHECK.due("decade()", x.decade(), 2);
        // A skin of worth 3 and one of 1 damp once, both on floor 2, which is the water's.
        CHECK.dueAbout("then", x, 3, 3, 1, 2, 20, 20, 4, 3, 0, 26);
        x.undo();
        CHECK.dueAbout("ahead", x, 3, 3, 0, 1, 20, 18, 3, 3 + 3 + 1, 4 + 1, 26);
    }

    // "What a FLOOR BEARS (what = 0), what is on it (1 ..), which RECORDS, as bits (2 ..). UNKNOWN; BAD."
    private static void floorNoughtToTwo() {
        SinkingArchive x = Check.towerOf("T59900000099R90000R90004R90004");
        int[][] want = {{99, 9, 1}, {0, 0, 0}, {0, 0, 0}, {0, 0, 0}, {99, 18, 6}};
        for (int g = 0; g < 5; g++) {
            for (int what = 0; what < 3; what++) {
                CHECK.due("floor(" + g + ", " + what + ")", x.floor(g, what), want[g][what]);
            }
            CHECK.due("floor(" + g + ", 3)", x.floor(g, 3), BAD);
            for (int what : EXTREMES) {
                CHECK.due("floor(" + g + ", " + what + ")", x.floor(g, what), BAD);
            }
        }
        CHECK.due("no such floor", x.floor(5, 0), UNKNOWN);
        CHECK.due("UNKNOWN ahead of BAD", x.floor(5, 3), UNKNOWN);
        for (int g : EXTREMES) {
            CHECK.due("floor(" + g + ", 0)", x.floor(g, 0), UNKNOWN);
            CHECK.due("UNKNOWN ahead of BAD", x.floor(g, g), UNKNOWN);
        }
    }

    // "(1; under water: 0), .. (2; likewise)"
    private static void floorUnderWater() {
        SinkingArchive x = Check.towerOf("T21122R10000R20001");
        for (int water = 0; water <= 2; water++) {
            CHECK.due("bears", x.floor(0, 0), 11);
            CHECK.due("bears", x.floor(1, 0), 22);
            CHECK.due("on 0", x.floor(0, 1), water > 0 ? 0 : 1);
            CHECK.due("on 1", x.floor(1, 1), water > 1 ? 0 : 2);
            CHECK.due("which on 0", x.floor(0, 2), water > 0 ? 0 : 1);
            CHECK.due("which on 1", x.floor(1, 2), water > 1 ? 0 : 2);
            x.decade();
        }
    }

    // "Of a RECORD weight (what = 0), .. what THE INDEX says (6). UNKNOWN; BAD."
    private static void recordNoughtToSix() {
        SinkingArchive x = Check.towerOf("T50000000099R98714R11104");
        x.index(0, 1);
        int[] want = {9, 8, 7, 1, 4, 0, 1};
        for (int what = 0; what < 7; what++) {
            CHECK.due("record(0, " + what + ")", x.record(0, what), want[what]);
        }
        CHECK.due("record(0, 7)", x.record(0, 7), BAD);
        CHECK.due("record(2, 0)", x.record(2, 0), UNKNOWN);
        CHECK.due("UNKNOWN ahead of BAD", x.record(2, 7), UNKNOWN);
        for (int extreme : EXTREMES) {
            CHECK.due("record(1, " + extreme + ")", x.record(1, extreme), BAD);
            CHECK.due("record(" + extreme + ", 6)", x.record(extreme, 6), UNKNOWN);
            CHECK.due("UNKNOWN ahead of BAD", x.record(extreme, extreme), UNKNOWN);
        }
        for (int i = 0; i < 4; i++) {
            x.decade();
            CHECK.due("not drowned", x.record(0, 5), 0);
        }
        x.decade();
        CHECK.due("drowned", x.record(0, 5), 1);
        CHECK.due("they lie where they were", x.record(0, 4), 4);
    }

    // "Whether a RECORD CITES another one: 1, 0. UNKNOWN."
    private static void citesOfAll() {
        SinkingArchive x = Check.towerOf("T29900" + "R10000".repeat(8) + "Q07Q70Q67");
        for (int r = 0; r < 8; r++) {
            for (int o = 0; o < 8; o++) {
                boolean told = r == 0 && o == 7 || r == 7 && o == 0 || r == 6 && o == 7;
                CHECK.due("cites(" + r + ", " + o + ")", x.cites(r, o), told ? 1 : 0);
            }
            CHECK.due("cites(" + r + ", 8)", x.cites(r, 8), UNKNOWN);
            CHECK.due("cites(8, " + r + ")", x.cites(8, r), UNKNOWN);
            for (int extreme : EXTREMES) {
                CHECK.due("cites(" + r + ", " + extreme + ")", x.cites(r, extreme), UNKNOWN);
                CHECK.due("cites(" + extreme + ", " + r + ")", x.cites(extreme, r), UNKNOWN);
            }
        }
    }

    // "WATER is 0 at first: FLOORS below it are under water."
    private static void waterIsNoughtAtFirst() {
        SinkingArchive x = Check.towerOf("T20909R10000");
        CHECK.due("water", x.about(3), 0);
        CHECK.due("floor 0 is not under it", x.floor(0, 2), 1);
        CHECK.due("nor what is on it", x.record(0, 5), 0);
        x.decade();
        CHECK.due("water", x.about(3), 1);
        CHECK.due("floor 0 is", x.floor(0, 2), 0);
    }

    // "A DECADE: what is on FLOOR WATER DROWNS, then WATER is 1 more"
    private static void drownsOnFloorWaterAlone() {
        SinkingArchive x = Check.towerOf("T59999999999R10000R10001R10002R10003R10004R10000R10004R10002");
        int[] want = {33, 2, 132, 8, 80};
        for (int decade = 0; decade < 5; decade++) {
            CHECK.due("decade " + decade, x.decade(), want[decade]);
            CHECK.due("water", x.about(3), decade + 1);
        }
        CHECK.due("all drowned", x.about(2), 8);
    }

    // "It can be as long as some FLOOR is not under water." "LATE: no FLOOR is left."
    private static void decadeAsLongAsSomeFloorIsLeft() {
        for (int f = 2; f <= 5; f++) {
            SinkingArchive x = Check.towerOf("T" + f + "09".repeat(f) + "R1000" + (f - 1));
            for (int i = 0; i < f; i++) {
                CHECK.due(f + " floors, decade " + i, x.decade(), i < f - 1 ? 0 : 1);
            }
            CHECK.due("none is left", x.decade(), LATE);
            CHECK.due("nor then", x.decade(), LATE);
            CHECK.due("water", x.about(3), f);
            CHECK.due("acts", x.about(6), f);
            CHECK.due("undo()", x.undo(), f - 1);
            CHECK.due("once more", x.decade(), 1);
            CHECK.due("and no more", x.decade(), LATE);
        }
    }

    // "then all on FLOOR WATER, but SKIN, have a WORTH of 1 less (0 at least)"
    private static void dampOneLessNoughtAtLeast() {
        SinkingArchive x = Check.towerOf("T3999999R10001R11001R12001R19001R12002R12000");
        x.decade();
        int[] want = {0, 0, 1, 8, 2, 2};
        for (int r = 0; r < 6; r++) {
            CHECK.due("worth of " + r, x.record(r, 1), want[r]);
        }
        CHECK.due("kept", x.about(7), 1 + 8 + 2);
        CHECK.due("carry(2, 2)", x.carry(2, 2), 1);
        CHECK.due("carry(1, 2)", x.carry(1, 2), 1);
        x.decade();
        CHECK.due("1, then 0", x.record(2, 1), 0);
        CHECK.due("0 stays 0", x.record(1, 1), 0);
        CHECK.due("2, then 1", x.record(4, 1), 1);
        CHECK.due("of a drowned one it stays", x.record(3, 1), 8);
    }

    private static void dampButSkin() {
        SinkingArchive x = Check.towerOf("T29999R15001R15011R15021R15031");
        CHECK.due("decade()", x.decade(), 0);
        int[] want = {4, 5, 4, 4};
        for (int kind = 0; kind < 4; kind++) {
            CHECK.due("worth of kind " + kind, x.record(kind, 1), want[kind]);
        }
        CHECK.due("kept", x.about(7), 4 + 5 + 4);
    }

    private static void dampBehindTheLastFloor() {
        SinkingArchive x = Check.towerOf("T29999R15001R15000");
        x.decade();
        CHECK.due("damp on the top", x.record(0, 1), 4);
        CHECK.due("none on floor 0", x.record(1, 1), 5);
        CHECK.due("the last one", x.decade(), 1);
        CHECK.due("no floor is damp", x.record(0, 1), 4);
    }

    // "EFFORT is what each DECADE has (0 .. 99; 9 at first)". "BAD."
    private static void effortNoughtToNinetyNine() {
        SinkingArchive x = Check.towerOf("T20909R90000");
        CHECK.due("at first", x.about(4), 9);
        CHECK.due("effort(99)", x.effort(99), 9);
        CHECK.due("effort(100)", x.effort(100), BAD);
        CHECK.due("effort", x.about(4), 99);
        CHECK.due("effort(0)", x.effort(0), 99);
        CHECK.due("effort(-1)", x.effort(-1), BAD);
        CHECK.due("effort", x.about(4), 0);
        for (int e : EXTREMES) {
            CHECK.due("effort(" + e + ")", x.effort(e), BAD);
        }
        CHECK.due("effort", x.about(4), 0);
        CHECK.due("left", x.about(5), 0);
        x.decade();
        CHECK.due("nothing is left of 0", x.about(5), 0);
        CHECK.due("effort(1)", x.effort(1), 0);
        CHECK.due("left", x.about(5), 1);
        CHECK.due("effort(1)", x.effort(1), 1);
        CHECK.due("left", x.about(5), 1);
    }

    // "(LEFT is by as much more or less, 0 at least ..)"
    private static void effortLeftNoughtAtLeast() {
        int[] to = {9, 6, 5, 4, 0};
        int[] left = {4, 1, 0, 0, 0};
        for (int i = 0; i < to.length; i++) {
            SinkingArchive x = Check.towerOf("T20909R50000");
            CHECK.due("carry(0, 1)", x.carry(0, 1), 5);
            CHECK.due("left", x.about(5), 4);
            CHECK.due("effort(" + to[i] + ")", x.effort(to[i]), 9);
            CHECK.due("left of " + to[i], x.about(5), left[i]);
            CHECK.due("effort(99)", x.effort(99), to[i]);
            CHECK.due("left by as much more", x.about(5), left[i] + 99 - to[i]);
        }
    }

    // "(.. this is no ACT)"
    private static void effortIsNoAct() {
        SinkingArchive x = Check.towerOf("T20909");
        x.effort(0);
        CHECK.due("acts", x.about(6), 0);
        CHECK.due("undo()", x.undo(), LATE);
        CHECK.due("effort stays", x.about(4), 0);
    }

    // "so much is LEFT of it as is not spent in this one (all of it when a DECADE is over)"
    private static void leftIsAllWhenADecadeIsOver() {
        SinkingArchive x = Check.towerOf("T3999999R90000");
        CHECK.due("all of it", x.carry(0, 1), 9);
        CHECK.due("nothing is left", x.about(5), 0);
        CHECK.due("not even a floor", x.carry(0, 2), LATE);
        x.decade();
        CHECK.due("all of it is left", x.about(5), 9);
        CHECK.due("all of it", x.carry(0, 2), 9);
    }

    // "To CARRY a RECORD up to a higher FLOOR". "UNKNOWN: record, floor; LATE: .. (the same FLOOR, a lower one, too)"
    private static void carryToAHigherFloor() {
        SinkingArchive x = Check.towerOf("T59999999999R10002");
        int[] want = {LATE, LATE, LATE, 1, 2, UNKNOWN};
        for (int floor = 0; floor <= 5; floor++) {
            CHECK.due("carry(0, " + floor + ")", x.carry(0, floor), want[floor]);
            CHECK.due("acts", x.about(6), want[floor] > 0 ? 1 : 0);
            CHECK.due("stands on", x.record(0, 4), want[floor] > 0 ? floor : 2);
            if (want[floor] > 0) {
                x.undo();
            }
        }
        CHECK.due("carry(1, 4)", x.carry(1, 4), UNKNOWN);
        CHECK.due("carry(1, 5)", x.carry(1, 5), UNKNOWN);
        for (int extreme : EXTREMES) {
            CHECK.due("carry(" + extreme + ", 4)", x.carry(extreme, 4), UNKNOWN);
            CHECK.due("carry(0, " + extreme + ")", x.carry(0, extreme), UNKNOWN);
            CHECK.due("carry(" + extreme + ", " + extreme + ")", x.carry(extreme, extreme), UNKNOWN);
        }
        // UNKNOWN is told ahead of LATE.
        x.decade();
        x.decade();
        x.decade();
        CHECK.due("drowned", x.carry(0, 4), LATE);
        CHECK.due("drowned, to no floor", x.carry(0, 5), UNKNOWN);
    }

    // "no more than what is LEFT"
    private static void carryByWhatIsLeft() {
        for (int w = 1; w <= 9; w++) {
            for (int floors = 1; floors <= 4; floors++) {
                SinkingArchive x = Check.towerOf("T59999999999R" + w + "0000");
                x.effort(w * floors - 1);
                CHECK.due("one too little", x.carry(0, floors), LATE);
                x.effort(w * floors);
                CHECK.due("just enough", x.carry(0, floors), w * floors);
                CHECK.due("left", x.about(5), 0);
                CHECK.due("effort", x.about(4), w * floors);
            }
        }
        SinkingArchive x = Check.towerOf("T29999R10000");
        x.effort(0);
        CHECK.due("by nothing", x.carry(0, 1), LATE);
    }

    // "that FLOOR must BEAR them"
    private static void carryByWhatItBears() {
        for (int w = 1; w <= 9; w++) {
            SinkingArchive x = Check.towerOf("T309000" + w + "R" + w + "0000");
            CHECK.due("a landing", x.carry(0, 1), LATE);
            x.effort(99);
            CHECK.due("past it to one that just bears it", x.carry(0, 2), 2 * w);
            x = Check.towerOf("T209" + "0" + (w - 1) + "R" + w + "0000");
            CHECK.due("one too weak", x.carry(0, 1), LATE);
            CHECK.due("acts", x.about(6), 0);
        }
        SinkingArchive x = Check.towerOf("T20905R30000R20000R30001");
        CHECK.due("3 and 3 of 5", x.carry(0, 1), LATE);
        CHECK.due("3 and 2 of 5", x.carry(1, 1), 2);
        CHECK.due("what is on it", x.floor(1, 1), 5);
    }

    private static void carryAllEight() {
        SinkingArchive x = Check.towerOf("T3727272" + EIGHT_JOINED);
        x.effort(71);
        CHECK.due("72 by 71", x.carry(7, 1), LATE);
        x.effort(72);
        CHECK.due("72 by 72", x.carry(7, 1), 72);
        CHECK.due("all are there", x.floor(1, 2), 255);
        CHECK.due("left", x.about(5), 0);
        x.undo();
        x.effort(99);
        CHECK.due("two floors are too far", x.carry(0, 2), LATE);
        CHECK.due("one is not", x.carry(0, 1), 72);
        x = Check.towerOf("T27271" + EIGHT_JOINED);
        x.effort(99);
        CHECK.due("71 does not bear 72", x.carry(4, 1), LATE);
        CHECK.due("all stay", x.floor(0, 2), 255);
    }

    // "DROWNED ones carry nothing and are not carried"
    private static void carryDrownedOnes() {
        SinkingArchive x = Check.towerOf("T3999999R10000R10030R10001R10031");
        x.decade();
        CHECK.due("a drowned one", x.carry(0, 2), LATE);
        CHECK.due("a drowned joined one", x.carry(1, 2), LATE);
        CHECK.due("a drowned one where it lies", x.carry(0, 0), LATE);
        CHECK.due("these two", x.carry(3, 2), 2);
        CHECK.due("the drowned stay", x.record(1, 4), 0);
    }

    // "Which RECORDS hang together with one that is there (it, too), as bits. UNKNOWN; LATE: it is DROWNED."
    private static void togetherAlone() {
        SinkingArchive x = Check.towerOf("T20909R10000R10010R10021");
        for (int r = 0; r < 3; r++) {
            CHECK.due("together(" + r + ")", x.together(r), 1 << r);
        }
        CHECK.due("together(3)", x.together(3), UNKNOWN);
        for (int extreme : EXTREMES) {
            CHECK.due("together(" + extreme + ")", x.together(extreme), UNKNOWN);
        }
        x.decade();
        CHECK.due("drowned", x.together(0), LATE);
        CHECK.due("drowned", x.together(1), LATE);
        CHECK.due("not drowned", x.together(2), 4);
        CHECK.due("together(3)", x.together(3), UNKNOWN);
    }

    private static void togetherAllEight() {
        SinkingArchive x = Check.towerOf("T27200" + EIGHT_JOINED);
        for (int r = 0; r < 8; r++) {
            CHECK.due("together(" + r + ")", x.together(r), 255);
        }
        x.decade();
        CHECK.due("drowned", x.together(7), LATE);
    }

    // "a RECORD that is JOINED and the one ahead of it, again and again"
    private static void togetherAgainAndAgain() {
        SinkingArchive x = Check.towerOf("T29999R10000R10030R10010R10030R10030R10020R10000R10030");
        int[] want = {3, 3, 28, 28, 28, 32, 192, 192};
        for (int r = 0; r < 8; r++) {
            CHECK.due("together(" + r + ")", x.together(r), want[r]);
        }
    }

    /** Ones that are numbered next to a drowned one, but hang together with another. */
    private static void togetherBesideADrownedOne() {
        SinkingArchive x = Check.towerOf("T29999R10000R10001R10031R10000R10001R10031");
        x.decade();
        int[] want = {LATE, 6, 6, LATE, 48, 48};
        for (int r = 0; r < 6; r++) {
            CHECK.due("together(" + r + ")", x.together(r), want[r]);
        }
    }

    // "KEPT is the WORTH of all that is not DROWNED (of FORGED ones 0)."
    private static void keptOfForgedNought() {
        SinkingArchive x = Check.towerOf("T29999R19020R10000");
        CHECK.due("a forged one", x.about(7), 0);
        CHECK.due("its worth", x.record(0, 1), 9);
        x = Check.towerOf("T29900" + "R19000".repeat(8));
        CHECK.due("all", x.about(7), 72);
        x.decade();
        CHECK.due("none", x.about(7), 0);
    }

    // "ACTS .. are a row (10 at most; when it is full, the first one is forgotten)"
    private static void actsTenAtMost() {
        for (int n = 9; n <= 12; n++) {
            SinkingArchive x = Check.towerOf("T59999999999R10000R10000R10000");
            x.effort(99);
            for (int i = 0; i < n; i++) {
                CHECK.due("carry", x.carry(i / 4, i % 4 + 1), 1);
                CHECK.due("acts", x.about(6), Math.min(10, i + 1));
            }
            int kept = Math.min(n, 10);
            for (int i = kept - 1; i >= 0; i--) {
                CHECK.due("undo()", x.undo(), i);
                CHECK.due("left", x.about(5), 99 - (n - kept + i));
            }
            CHECK.due("of " + n + " no more", x.undo(), LATE);
            CHECK.due("what was forgotten stands", x.record(0, 4), n - kept);
            // Behind that the row has room again.
            CHECK.due("carry", x.carry(2, 1), 1);
            CHECK.due("acts", x.about(6), 1);
        }
    }

    // "ACTS (CARRIED, DECADES, WRITTEN ANEW)"
    private static void actsOfEachSort() {
        SinkingArchive x = Check.towerOf("T499999903R20000R10001R10001R10003Q10Q20");
        CHECK.due("carried", x.carry(1, 2), 1);
        CHECK.due("a decade", x.decade(), 1);
        CHECK.due("written anew", x.anew(0, 3), 2);
        CHECK.due("acts", x.about(6), 3);
        CHECK.due("undo()", x.undo(), 2);
        CHECK.dueRecord("drowned", x, 0, 2, 0, 0, 0, 0, 1, 0);
        CHECK.due("undo()", x.undo(), 1);
        CHECK.dueRecord("there", x, 0, 2, 0, 0, 0, 0, 0, 0);
        CHECK.due("left", x.about(5), 8);
        CHECK.due("undo()", x.undo(), 0);
        CHECK.due("carried no more", x.record(1, 4), 1);
        CHECK.due("left", x.about(5), 9);
        CHECK.due("undo()", x.undo(), LATE);
    }

    // "LATE: there is none."
    private static void undoNone() {
        SinkingArchive x = new SinkingArchive();
        CHECK.due("undo()", x.undo(), LATE);
        x.decade();
        CHECK.due("undo()", x.undo(), 0);
        CHECK.due("undo()", x.undo(), LATE);
        CHECK.due("water", x.about(3), 0);
        Check.put(x, "T20909R10000");
        x.tower();
        x.carry(0, 1);
        x.tower();
        CHECK.due("none of the old tower", x.undo(), LATE);
    }

    // "(.. THE INDEX stays)"
    private static void undoIndexStays() {
        SinkingArchive x = Check.towerOf("T20909R10000");
        x.decade();
        CHECK.due("index(0, 1)", x.index(0, 1), 0);
        x.undo();
        CHECK.due("it says", x.record(0, 6), 1);
        x.carry(0, 1);
        x.index(0, 0);
        CHECK.due("mend()", x.mend(), 1);
        x.undo();
        CHECK.due("it says", x.record(0, 6), 1);
        CHECK.due("stands on", x.record(0, 4), 0);
    }

    // "(RECORDS, WATER, EFFORT and LEFT are as they were ahead of it ..)"
    private static void undoEffort() {
        SinkingArchive x = Check.towerOf("T20909R10000");
        x.effort(0);
        x.decade();
        x.effort(99);
        CHECK.due("left", x.about(5), 99);
        x.undo();
        CHECK.dueAbout("as ahead of it", x, 2, 1, 0, 0, 0, 0, 0, 0, 0, 12);
        x.effort(99);
        x.carry(0, 1);
        x.effort(0);
        CHECK.due("left", x.about(5), 0);
        x.undo();
        CHECK.dueAbout("as ahead of it", x, 2, 1, 0, 0, 99, 99, 0, 0, 0, 12);
    }

    // "a DROWNED RECORD that two or more CITE". "how many CITE it".
    private static void anewTwoOrMore() {
        for (int citing = 0; citing <= 7; citing++) {
            StringBuilder text = new StringBuilder("T29999R10000" + "R10001".repeat(7));
            for (int r = 1; r <= citing; r++) {
                text.append('Q').append(r).append(0);
            }
            SinkingArchive x = Check.towerOf(text.toString());
            x.decade();
            CHECK.due(citing + " cite it", x.anew(0, 1), citing < 2 ? LATE : citing);
            CHECK.due("acts", x.about(6), citing < 2 ? 1 : 2);
            CHECK.due("drowned", x.record(0, 5), citing < 2 ? 1 : 0);
        }
        // Whom it cites itself does not count.
        SinkingArchive x = Check.towerOf("T29999R10000R10001R10001Q01Q02Q10");
        x.decade();
        CHECK.due("one cites it", x.anew(0, 1), LATE);
    }

    // "which are there"
    private static void anewThatAreThere() {
        SinkingArchive x = Check.towerOf("T3999999R10000R10001R10002R10002Q10Q20Q30");
        x.decade();
        CHECK.due("three are there", x.anew(0, 2), 3);
        x.undo();
        x.decade();
        CHECK.due("two are there", x.anew(0, 2), 2);
        x.undo();
        x.undo();
        x = Check.towerOf("T3999999R10000R10001R10002Q10Q20");
        x.decade();
        CHECK.due("two are there", x.anew(0, 2), 2);
        x.undo();
        x.decade();
        CHECK.due("one is there", x.anew(0, 2), LATE);
        x.decade();
        CHECK.due("none is there", x.anew(0, 2), LATE);
    }

    // "on a FLOOR that BEARS it"
    private static void anewOnAFloorThatBears() {
        SinkingArchive x = Check.towerOf("T50900070699R50000R10002R10002R10003Q10Q20");
        x.decade();
        CHECK.due("a landing", x.anew(0, 1), LATE);
        CHECK.due("2 and 5 of 7", x.anew(0, 2), 2);
        x.undo();
        CHECK.due("1 and 5 of 6", x.anew(0, 3), 2);
        x.undo();
        x = Check.towerOf("T50900060504R50000R10002R10002R10003Q10Q20");
        x.decade();
        CHECK.due("2 and 5 of 6", x.anew(0, 2), LATE);
        CHECK.due("1 and 5 of 5", x.anew(0, 3), LATE);
        CHECK.due("5 of 4", x.anew(0, 4), LATE);
        CHECK.due("acts", x.about(6), 1);
    }

    // "and is not under water". "UNKNOWN: record, floor; LATE: it can not be."
    private static void anewNotUnderWater() {
        SinkingArchive x = Check.towerOf("T59999999999R10000R10004R10004Q10Q20");
        for (int water = 1; water <= 4; water++) {
            x.decade();
            for (int floor = 0; floor <= 5; floor++) {
                int want = floor == 5 ? UNKNOWN : floor < water ? LATE : 2;
                CHECK.due("water " + water + ": anew(0, " + floor + ")", x.anew(0, floor), want);
                if (want > 0) {
                    CHECK.due("it is there", x.record(0, 4), floor);
                    x.undo();
                }
            }
        }
        CHECK.due("anew(3, 4)", x.anew(3, 4), UNKNOWN);
        for (int extreme : EXTREMES) {
            CHECK.due("anew(" + extreme + ", 4)", x.anew(extreme, 4), UNKNOWN);
            CHECK.due("anew(0, " + extreme + ")", x.anew(0, extreme), UNKNOWN);
        }
        x.decade();
        for (int floor = 0; floor < 5; floor++) {
            CHECK.due("no floor is left", x.anew(0, floor), LATE);
        }
    }

    private static void anewOfOneThatIsThere() {
        SinkingArchive x = Check.towerOf("T3999999R10000R10002R10002Q10Q20");
        CHECK.due("not drowned", x.anew(0, 2), LATE);
        CHECK.due("not drowned, where it is", x.anew(0, 0), LATE);
        CHECK.due("not drowned, to no floor", x.anew(0, 3), UNKNOWN);
        x.decade();
        CHECK.due("drowned", x.anew(0, 1), 2);
        CHECK.due("not drowned again", x.anew(0, 2), LATE);
        x.decade();
        CHECK.due("drowned again", x.anew(0, 2), 2);
    }

    // "as SKIN, of the WORTH that it had when it DROWNED"
    private static void anewWorthAsItDrowned() {
        SinkingArchive x = Check.towerOf("T3999999R19001R19021R10002R10002Q20Q30Q21Q31");
        x.decade();
        x.decade();
        CHECK.due("kept", x.about(7), 0);
        CHECK.due("damp once", x.anew(0, 2), 2);
        CHECK.dueRecord("a skin", x, 0, 1, 8, 0, 1, 2, 0, 1);
        CHECK.due("kept", x.about(7), 8);
        CHECK.due("a forged one", x.anew(1, 2), 2);
        CHECK.dueRecord("a skin", x, 1, 1, 8, 0, 1, 2, 0, 1);
        CHECK.due("kept", x.about(7), 16);
        x.undo();
        CHECK.dueRecord("forged again", x, 1, 1, 8, 0, 2, 1, 1, 1);
    }

    // "(JOINED to none; one that is JOINED with it is so no more: it is plain)"
    private static void anewJoinedToNone() {
        SinkingArchive x = Check.towerOf("T29999R10000R10030R10030R10001R10031Q30Q40Q31Q41");
        x.decade();
        CHECK.due("the first", x.anew(0, 1), 2);
        CHECK.due("a skin", x.record(0, 3), 1);
        CHECK.due("the next is plain", x.record(1, 3), 0);
        CHECK.due("the third is joined with that", x.record(2, 3), 3);
        CHECK.due("the second", x.anew(1, 1), 2);
        CHECK.due("a skin", x.record(1, 3), 1);
        CHECK.due("the third is plain", x.record(2, 3), 0);
        CHECK.due("the first stays a skin", x.record(0, 3), 1);
        CHECK.due("each alone", x.together(0), 1);
        CHECK.due("each alone", x.together(1), 2);
        CHECK.due("others stay joined", x.together(3), 24);
        // The last of eight has none behind it.
        x = Check.towerOf("T29999" + "R10001".repeat(2) + "R10000".repeat(5) + "R10030Q07Q17");
        x.decade();
        CHECK.due("the last one", x.anew(7, 1), 2);
        CHECK.due("a skin", x.record(7, 3), 1);
        CHECK.due("alone", x.together(7), 128);
    }
}
