/** Part 3 of the document and promises 16 to 18: each sentence that names a bound, on both sides of it. */
public final class EdgePlansTest {
    private static final int UNKNOWN = SinkingArchive.UNKNOWN, BAD = SinkingArchive.BAD, LATE = SinkingArchive.LATE;
    private static final int[] NO_DECADES = {0, 4, -1, 5, 1 << 31, Integer.MAX_VALUE, 257, 1 << 30};
    private static final Check CHECK = new Check("EdgePlansTest");

    public static void main(String[] args) {
        decadesOneToThree();
        fourRecordsAtMost();
        fourThatAreThere();
        whichRefusalFirst();
        noRecords();
        byWhatIsLeft();
        laterByEffort();
        effortNoughtAndMost();
        whatEachFloorBears();
        allAtOnce();
        carriedOrNot();
        noFloorAnyMore();
        drownedOnesStay();
        drownedInThePlan();
        firstByTheFloorOfRecordNought();
        joinedOnesGoAlike();
        dampInPlans();
        CHECK.finish();
    }

    private static void plan(String when, SinkingArchive x, int d, int most, int least, int... floors) {
        // Ahead of each call another plan is asked for: none may answer by what was found then.
        int other = d % 3 + 1;
        for (int r = 0; r < floors.length; r++) {
            x.least(other);
            CHECK.due(when + ": planAt(" + d + ", " + r + ")", x.planAt(d, r), floors[r]);
        }
        x.planAt(other, 0);
        CHECK.due(when + ": most(" + d + ")", x.most(d), most);
        x.most(other);
        CHECK.due(when + ": least(" + d + ")", x.least(d), least);
    }

    private static void refused(String when, SinkingArchive x, int d, int want) {
        CHECK.due(when + ": most(" + d + ")", x.most(d), want);
        CHECK.due(when + ": least(" + d + ")", x.least(d), want);
        CHECK.due(when + ": planAt(" + d + ", 0)", x.planAt(d, 0), want);
    }

    // "A PLAN for d DECADES (1 .. 3)". "BAD: d".
    private static void decadesOneToThree() {
        SinkingArchive x = Check.towerOf("T409090909R11013");
        for (int d = 1; d <= 3; d++) {
            plan("it stays", x, d, 1, 0, 3);
        }
        for (int d : NO_DECADES) {
            refused("no such plan", x, d, BAD);
        }
    }

    // "LATE: more than four RECORDS are there."
    private static void fourRecordsAtMost() {
        String text = "T29900";
        for (int n = 1; n <= 8; n++) {
            text += "R11000";
            SinkingArchive x = Check.towerOf(text);
            if (n <= 4) {
                plan(n + " records", x, 1, 0, 0, 0);
            } else {
                refused(n + " records", x, 1, LATE);
            }
        }
        refused("joined ones are five, too", Check.towerOf("T29900R11000" + "R11030".repeat(4)), 3, LATE);
        plan("joined ones are four", Check.towerOf("T29900R11000" + "R11030".repeat(3)), 3, 0, 0, 0, 0, 0, 0);
    }

    private static void fourThatAreThere() {
        SinkingArchive x = Check.towerOf("T3999999" + "R13000".repeat(3) + "R13002".repeat(5));
        x.decade();
        refused("five are there", x, 1, LATE);
        x = Check.towerOf("T3999999" + "R13000".repeat(4) + "R13002".repeat(4));
        refused("eight are there", x, 1, LATE);
        x.decade();
        plan("four are there", x, 1, 8, 0, 0, 0, 0, 0, 2, 2, 2, 2);
        x.undo();
        refused("eight are there again", x, 1, LATE);
    }

    // "UNKNOWN: record; BAD; LATE."
    private static void whichRefusalFirst() {
        SinkingArchive x = Check.towerOf("T29900" + "R11000".repeat(5));
        for (int d : NO_DECADES) {
            refused("BAD ahead of LATE", x, d, BAD);
            CHECK.due("UNKNOWN ahead of BAD", x.planAt(d, 5), UNKNOWN);
            CHECK.due("UNKNOWN ahead of BAD", x.planAt(d, -1), UNKNOWN);
        }
        for (int record : new int[] {5, 8, -1, Integer.MIN_VALUE, Integer.MAX_VALUE}) {
            CHECK.due("UNKNOWN ahead of LATE", x.planAt(1, record), UNKNOWN);
        }
        CHECK.due("the last one", x.planAt(3, 4), LATE);
        x.decade();
        CHECK.due("the last one", x.planAt(3, 4), 0);
        CHECK.due("one more", x.planAt(3, 5), UNKNOWN);
    }

    private static void noRecords() {
        SinkingArchive fresh = new SinkingArchive();
        SinkingArchive five = Check.towerOf("T50000000000");
        for (int d = 1; d <= 3; d++) {
            plan("a new object", fresh, d, 0, 0);
            plan("no records", five, d, 0, 0);
            CHECK.due("no record", fresh.planAt(d, 0), UNKNOWN);
            CHECK.due("no record", five.planAt(d, 0), UNKNOWN);
        }
    }

    // "by EFFORT (for the first one by what is LEFT)"
    private static void byWhatIsLeft() {
        SinkingArchive x = Check.towerOf("T29999R52000");
        x.effort(5);
        plan("just enough", x, 1, 1, 5, 1);
        x.effort(4);
        plan("one too little", x, 1, 0, 0, 0);
        x = Check.towerOf("T29999R52000R40000");
        x.effort(10);
        x.carry(1, 1);
        plan("six are left", x, 1, 1, 5, 1, 1);
        x.effort(9);
        plan("five are left", x, 1, 1, 5, 1, 1);
        x.effort(8);
        plan("four are left", x, 1, 0, 0, 0, 1);
        // Two by what is left together: 5 and 3.
        x = Check.towerOf("T29999R52000R32000");
        x.effort(8);
        plan("just enough for both", x, 1, 2, 8, 1, 1);
        x.effort(7);
        plan("one too little for both", x, 1, 1, 3, 0, 1);
    }

    private static void laterByEffort() {
        SinkingArchive x = Check.towerOf("T3999999R59001R50000");
        x.carry(1, 1);
        plan("four are left", x, 1, 8, 0, 1, 1);
        // By 4 it cannot go ahead of the first decade; by 9 it can ahead of the second one.
        plan("four are left", x, 2, 7, 5, 1, 1);
        x.effort(10);
        plan("five are left", x, 2, 8, 5, 2, 1);
        x.effort(4);
        plan("none are left, four then", x, 2, 0, 0, 1, 1);
        x = Check.towerOf("T3999999R59000");
        plan("nine each", x, 2, 7, 10, 1);
        x.effort(10);
        plan("ten each", x, 2, 8, 10, 2);
    }

    private static void effortNoughtAndMost() {
        String four = "T59999999999" + "R99000".repeat(4);
        SinkingArchive x = Check.towerOf(four);
        x.effort(0);
        for (int d = 1; d <= 3; d++) {
            plan("by nothing", x, d, 0, 0, 0, 0, 0, 0);
        }
        x.effort(72);
        plan("all two floors up", x, 1, 36, 72, 2, 2, 2, 2);
        x.effort(71);
        plan("one of them one floor", x, 1, 35, 63, 1, 2, 2, 2);
        x.effort(99);
        plan("all", x, 1, 36, 72, 2, 2, 2, 2);
        plan("all", x, 2, 36, 108, 2, 2, 2, 2);
        plan("all", x, 3, 36, 144, 2, 2, 2, 2);
        x.effort(98);
        plan("all", x, 3, 36, 144, 2, 2, 2, 2);
    }

    // "only what each FLOOR BEARS then counts"
    private static void whatEachFloorBears() {
        plan("just borne", Check.towerOf("T20505R22000R32000"), 1, 2, 5, 1, 1);
        plan("one too much", Check.towerOf("T20504R22000R32000"), 1, 1, 2, 1, 0);
        plan("a landing", Check.towerOf("T3050005R22000R32000"), 1, 2, 4, 2, 0);
        SinkingArchive x = Check.towerOf("T3050005R22000R32000");
        x.effort(10);
        plan("past a landing", x, 1, 4, 10, 2, 2);
        x.effort(9);
        plan("one too little", x, 1, 2, 4, 2, 0);
    }

    // "all at once"
    private static void allAtOnce() {
        SinkingArchive x = Check.towerOf("T3050505R52000R52001");
        x.effort(10);
        plan("each one up", x, 1, 3, 10, 1, 2);
        CHECK.due("one by one it is too much", x.carry(0, 1), LATE);
        x.effort(9);
        plan("one too little", x, 1, 2, 5, 0, 2);
    }

    // "what is there is CARRIED or not"; "LEAST: the EFFORT that takes together at least"
    private static void carriedOrNot() {
        plan("nothing to gain", Check.towerOf("T59999999999R10000"), 3, 0, 0, 0);
        plan("a forged one", Check.towerOf("T59999999999R19020"), 3, 0, 0, 0);
        plan("damp takes it all", Check.towerOf("T29999R11000"), 1, 0, 0, 0);
        plan("a skin does not damp", Check.towerOf("T29999R11010"), 1, 1, 1, 1);
        plan("high enough", Check.towerOf("T59999999999R19004"), 3, 9, 0, 4);
        plan("damp there", Check.towerOf("T59999999999R19003"), 3, 9, 1, 3);
    }

    // "(Once there is no FLOOR any more, nothing happens.)"
    private static void noFloorAnyMore() {
        for (int f = 2; f <= 3; f++) {
            SinkingArchive x = Check.towerOf("T" + f + "99".repeat(f) + "R1901" + (f - 1));
            for (int water = 0; water <= f; water++) {
                for (int d = 1; d <= 3; d++) {
                    boolean dry = water + d < f;
                    plan("water " + water + " of " + f, x, d, dry ? 9 : 0, 0, f - 1);
                }
                x.decade();
            }
            CHECK.due("the last one was refused", x.about(6), f);
        }
    }

    // "(DROWNED ones stay)"
    private static void drownedOnesStay() {
        SinkingArchive x = Check.towerOf("T3999999R19000R19001R19002R19000");
        x.effort(99);
        x.decade();
        plan("two lie on floor 0", x, 1, 7 + 8, 1, 0, 2, 2, 0);
        x.decade();
        plan("three lie", x, 1, 0, 0, 0, 1, 2, 0);
        x.decade();
        plan("all lie", x, 3, 0, 0, 0, 1, 2, 0);
    }

    /** The first one drowns within the plan, which it cannot help; the others go on up behind that. */
    private static void drownedInThePlan() {
        SinkingArchive x = Check.towerOf("T499090909R91010R11010R11011");
        x.effort(2);
        plan("one lost", x, 1, 2, 1, 0, 1, 1);
        plan("one lost, two on floor 2", x, 2, 2, 3, 0, 1, 1);
        plan("one lost, two on floor 3", x, 3, 2, 5, 0, 1, 1);
        x.effort(1);
        plan("one lost", x, 1, 2, 1, 0, 1, 1);
        plan("two lost", x, 2, 1, 1, 0, 0, 1);
        plan("two lost", x, 3, 1, 2, 0, 0, 1);
    }

    // "of like ones the first by the FLOOR of RECORD 0 ahead of the first DECADE, then RECORD 1, .."
    private static void firstByTheFloorOfRecordNought() {
        plan("one of two", Check.towerOf("T20402R22000R22000"), 1, 1, 2, 0, 1);
        plan("two of three", Check.towerOf("T20604" + "R22000".repeat(3)), 1, 2, 4, 0, 1, 1);
        plan("two of four", Check.towerOf("T20804" + "R22000".repeat(4)), 1, 2, 4, 0, 0, 1, 1);
        // One dry and one damp, either way round.
        plan("one higher", Check.towerOf("T3040202R22000R22000"), 1, 3, 6, 1, 2);
        // Whether it goes ahead of the first decade or of the second one takes the same.
        plan("late", Check.towerOf("T3999999R11011"), 2, 1, 1, 1);
        plan("as late as can be", Check.towerOf("T409090909R12010"), 3, 2, 3, 1);
    }

    // "(a RECORD that is JOINED and the one ahead of it ..)" go there together in a plan, too.
    private static void joinedOnesGoAlike() {
        SinkingArchive x = Check.towerOf("T29999R22000R30030R10000");
        x.effort(5);
        plan("both", x, 1, 1, 5, 1, 1, 0);
        x.effort(4);
        plan("neither", x, 1, 0, 0, 0, 0, 0);
        plan("both borne", Check.towerOf("T20505R22000R30030"), 1, 1, 5, 1, 1);
        plan("not both borne", Check.towerOf("T20504R22000R30030"), 1, 0, 0, 0, 0);
    }

    // "then all on FLOOR WATER, but SKIN, have a WORTH of 1 less (0 at least)"
    private static void dampInPlans() {
        plan("damp twice of 1", Check.towerOf("T3999999R91001"), 2, 0, 0, 1);
        plan("damp once of 2", Check.towerOf("T3999999R92001"), 2, 1, 9, 2);
        SinkingArchive x = Check.towerOf("T409090909R92001");
        plan("dry by nine a decade", x, 2, 2, 18, 2);
        x.effort(18);
        plan("as late as it can be dry", x, 2, 2, 18, 2);
        x.effort(8);
        plan("damp, then under water", x, 2, 0, 0, 1);
    }
}
