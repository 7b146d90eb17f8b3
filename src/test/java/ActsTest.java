/** Promises 11 to 15: carry, together, decade, anew, undo. */
public final class ActsTest {
    private static final int[] WRONG = {-1, Integer.MIN_VALUE, Integer.MAX_VALUE};
    private static final Check CHECK = new Check("ActsTest");

    public static void main(String[] args) {
        carry();
        carryByBearing();
        carryJoined();
        together();
        decade();
        dampWorth();
        anew();
        anewRefused();
        anewOfJoined();
        undo();
        undoForgets();
        CHECK.finish();
    }

    private static void carry() {
        SinkingArchive x = Check.towerOf("T499099999R25100R12101");
        CHECK.due("carry(2, 1)", x.carry(2, 1), SinkingArchive.UNKNOWN);
        CHECK.due("carry(0, 4)", x.carry(0, 4), SinkingArchive.UNKNOWN);
        for (int wrong : WRONG) {
            CHECK.due("carry(" + wrong + ", 3)", x.carry(wrong, 3), SinkingArchive.UNKNOWN);
            CHECK.due("carry(0, " + wrong + ")", x.carry(0, wrong), SinkingArchive.UNKNOWN);
        }
        CHECK.due("to the same floor", x.carry(0, 0), SinkingArchive.LATE);
        CHECK.due("to a lower one", x.carry(1, 0), SinkingArchive.LATE);
        CHECK.due("no acts yet", x.about(6), 0);
        x.wipe();
        Check.put(x, "T499009999R25100R12100");
        CHECK.due("tower()", x.tower(), 2);
        CHECK.due("to a landing", x.carry(0, 1), SinkingArchive.LATE);
        CHECK.due("past a landing", x.carry(0, 3), 6);
        CHECK.due("left", x.about(5), 3);
        CHECK.due("its floor", x.record(0, 4), 3);
        CHECK.due("the other one's", x.record(1, 4), 0);
        CHECK.due("the index stays", x.record(0, 6), 0);
        CHECK.due("just what is left", x.carry(1, 3), 3);
        CHECK.due("left", x.about(5), 0);
        CHECK.due("acts", x.about(6), 2);
        x.undo();
        x.effort(8);
        CHECK.due("one more than is left", x.carry(1, 3), SinkingArchive.LATE);
        CHECK.due("less far", x.carry(1, 2), 2);
        CHECK.due("a decade", x.decade(), 0);
        CHECK.due("all of it is left", x.about(5), 8);
    }

    private static void carryByBearing() {
        SinkingArchive x = Check.towerOf("T3090503R41100R21100R11101R11102");
        CHECK.due("one too heavy", x.carry(0, 2), SinkingArchive.LATE);
        CHECK.due("just borne", x.carry(0, 1), 4);
        CHECK.due("full", x.carry(1, 1), SinkingArchive.LATE);
        CHECK.due("just borne", x.carry(1, 2), 4);
        CHECK.due("full", x.carry(2, 2), SinkingArchive.LATE);
        // What drowned on a floor does not weigh on one that is above the water.
        x.effort(99);
        x.decade();
        x.decade();
        CHECK.due("drowned ones are not carried", x.carry(2, 2), SinkingArchive.LATE);
        CHECK.due("what is on the top", x.floor(2, 1), 3);
    }

    private static void carryJoined() {
        SinkingArchive x = Check.towerOf("T3999905R11100R21130R31130R11100R11130");
        CHECK.due("the middle one takes all three", x.carry(1, 1), 6);
        for (int r = 0; r < 5; r++) {
            CHECK.due("floor of " + r, x.record(r, 4), r < 3 ? 1 : 0);
        }
        CHECK.due("too much for what is left", x.carry(3, 2), SinkingArchive.LATE);
        CHECK.due("the last one takes the one ahead", x.carry(4, 1), 2);
        CHECK.due("floor of 3", x.record(3, 4), 1);
        x.decade();
        CHECK.due("together too heavy for the floor", x.carry(0, 2), SinkingArchive.LATE);
        CHECK.due("these are not", x.carry(3, 2), 2);
    }

    private static void together() {
        SinkingArchive x = Check.towerOf("T29999R11100R11130R11130R11100R11101R11131");
        int[] want = {7, 7, 7, 8, 48, 48};
        for (int r = 0; r < 6; r++) {
            CHECK.due("together(" + r + ")", x.together(r), want[r]);
        }
        CHECK.due("together(6)", x.together(6), SinkingArchive.UNKNOWN);
        for (int wrong : WRONG) {
            CHECK.due("together(" + wrong + ")", x.together(wrong), SinkingArchive.UNKNOWN);
        }
        x.decade();
        CHECK.due("drowned", x.together(1), SinkingArchive.LATE);
        CHECK.due("there", x.together(5), 48);
        CHECK.due("no act", x.about(6), 1);
    }

    private static void decade() {
        SinkingArchive x = Check.towerOf("T3999999R11100R11101R11102R11100");
        CHECK.due("first", x.decade(), 9);
        CHECK.due("second", x.decade(), 2);
        CHECK.due("third", x.decade(), 4);
        CHECK.due("water", x.about(3), 3);
        CHECK.due("no floor is left", x.decade(), SinkingArchive.LATE);
        CHECK.due("water", x.about(3), 3);
        CHECK.due("acts", x.about(6), 3);
        CHECK.due("they lie where they were", x.record(2, 4), 2);
        CHECK.due("drowned", x.record(2, 5), 1);
        CHECK.due("steps", x.about(8), 0);
        CHECK.due("kept", x.about(7), 0);
    }

    private static void dampWorth() {
        SinkingArchive x = Check.towerOf("T499999999R15100R13101R10101R14121R15131R12102R17111");
        x.decade();
        int[] want = {5, 2, 0, 3, 4, 2, 7};
        for (int r = 0; r < 7; r++) {
            CHECK.due("worth of " + r, x.record(r, 1), want[r]);
        }
        CHECK.due("carry(1, 2)", x.carry(1, 2), 1);
        x.decade();
        CHECK.due("twice", x.record(1, 1), 1);
        CHECK.due("once", x.record(5, 1), 1);
        CHECK.due("drowned ones lose nothing", x.record(3, 1), 3);
        CHECK.due("carry(5, 3)", x.carry(5, 3), 1);
        x.decade();
        CHECK.due("at the top", x.record(5, 1), 0);
        CHECK.due("drowned", x.record(1, 1), 1);
        x.undo();
        x.undo();
        x.undo();
        x.undo();
        CHECK.due("as it was", x.record(5, 1), 2);
    }

    private static void anew() {
        SinkingArchive x = Check.towerOf("T3100503R43900R11101R11101R11102R11100Q10Q20Q30Q40Q12");
        x.decade();
        CHECK.due("left", x.about(5), 9);
        CHECK.due("its floor is under water", x.anew(0, 0), SinkingArchive.LATE);
        CHECK.due("it does not fit there", x.anew(0, 1), SinkingArchive.LATE);
        x.carry(1, 2);
        CHECK.due("three there cite it", x.anew(0, 1), 3);
        CHECK.dueRecord("anew", x, 0, 4, 3, 9, 1, 1, 0, 0);
        CHECK.due("it takes no effort", x.about(5), 8);
        CHECK.due("an act", x.about(6), 3);
        CHECK.due("steps", x.about(8), 2);
        CHECK.due("it is there already", x.anew(0, 1), SinkingArchive.LATE);
        CHECK.due("carried on", x.carry(0, 2), SinkingArchive.LATE);
        x.decade();
        CHECK.due("it drowns again", x.record(0, 5), 1);
        CHECK.due("two there cite it, too heavy", x.anew(0, 2), SinkingArchive.LATE);
        CHECK.due("undo()", x.undo(), 3);
        CHECK.due("undo()", x.undo(), 2);
        CHECK.dueRecord("drowned as it was", x, 0, 4, 3, 9, 0, 0, 1, 0);
    }

    private static void anewRefused() {
        SinkingArchive x = Check.towerOf("T3999999R11100R11102R11101Q10Q20Q02Q12");
        CHECK.due("it is there", x.anew(0, 1), SinkingArchive.LATE);
        CHECK.due("anew(3, 1)", x.anew(3, 1), SinkingArchive.UNKNOWN);
        CHECK.due("anew(0, 3)", x.anew(0, 3), SinkingArchive.UNKNOWN);
        for (int wrong : WRONG) {
            CHECK.due("anew(" + wrong + ", 1)", x.anew(wrong, 1), SinkingArchive.UNKNOWN);
            CHECK.due("anew(0, " + wrong + ")", x.anew(0, wrong), SinkingArchive.UNKNOWN);
        }
        x.decade();
        x.decade();
        CHECK.due("one that cites it drowned", x.anew(0, 2), SinkingArchive.LATE);
        CHECK.due("as it was", x.about(2), 2);
        CHECK.due("acts", x.about(6), 2);
        x.undo();
        CHECK.due("two that are there", x.anew(0, 2), 2);
        // Now that it is there it helps to write anew what it cites.
        x.decade();
        CHECK.due("the other one", x.anew(2, 2), 2);
        CHECK.due("a skin keeps its worth", x.record(0, 1), 1);
    }

    private static void anewOfJoined() {
        SinkingArchive x = Check.towerOf("T29999R12110R13130R14130R11101R11101Q31Q41Q32Q42");
        x.decade();
        CHECK.due("the middle one", x.anew(1, 1), 2);
        CHECK.due("its kind", x.record(1, 3), 1);
        CHECK.due("the one ahead stays", x.record(0, 3), 1);
        CHECK.due("the one behind is plain", x.record(2, 3), 0);
        CHECK.due("together(1)", x.together(1), 2);
        CHECK.due("undo()", x.undo(), 1);
        CHECK.due("joined again", x.record(2, 3), 3);
        CHECK.due("joined again", x.record(1, 3), 3);
        CHECK.due("the last one", x.anew(2, 1), 2);
        CHECK.due("its kind", x.record(2, 3), 1);
        CHECK.due("the one ahead is joined still", x.record(1, 3), 3);
        CHECK.due("the middle one", x.anew(1, 1), 2);
        CHECK.due("a skin behind stays one", x.record(2, 3), 1);
        CHECK.due("apart", x.together(2), 4);
    }

    private static void undo() {
        SinkingArchive x = Check.towerOf("T3999999R25101R13100");
        x.index(0, 2);
        x.carry(0, 2);
        x.index(1, 2);
        x.effort(20);
        x.decade();
        x.effort(30);
        CHECK.dueAbout("ahead of undo", x, 3, 2, 1, 1, 30, 30, 2, 5, 1, 20);
        CHECK.due("undo()", x.undo(), 1);
        CHECK.dueAbout("as ahead of the decade", x, 3, 2, 0, 0, 20, 18, 1, 8, 2, 20);
        CHECK.due("undo()", x.undo(), 0);
        CHECK.dueAbout("as at first", x, 3, 2, 0, 0, 9, 9, 0, 8, 1, 20);
        CHECK.due("the index stays", x.record(0, 6), 2);
        CHECK.due("the index stays", x.record(1, 6), 2);
        CHECK.due("undo()", x.undo(), SinkingArchive.LATE);
        CHECK.due("what is refused is no act", x.carry(0, 0), SinkingArchive.LATE);
        CHECK.due("undo()", x.undo(), SinkingArchive.LATE);
        CHECK.due("damp comes and goes", x.decade(), 2);
        CHECK.due("worth", x.record(0, 1), 4);
        x.undo();
        CHECK.due("worth", x.record(0, 1), 5);
    }

    /** Twelve acts: the first two are forgotten. */
    private static void undoForgets() {
        SinkingArchive x = Check.towerOf("T5" + "9999999999" + "R10000R10000R10000R10000");
        for (int r = 0; r < 4; r++) {
            for (int floor = 1; floor < 4; floor++) {
                CHECK.due("carry", x.carry(r, floor), r < 3 ? 1 : SinkingArchive.LATE);
            }
        }
        CHECK.due("nine acts", x.about(6), 9);
        CHECK.due("the tenth", x.decade(), 8);
        CHECK.due("ten", x.about(6), 10);
        x.carry(0, 4);
        x.carry(1, 4);
        CHECK.due("ten at most", x.about(6), 10);
        for (int left = 9; left >= 0; left--) {
            CHECK.due("undo()", x.undo(), left);
            // By twelve, eleven .. acts less one each: where record 0, 1 and 2 stand then, and what is left.
            int carried = Math.min(left + 2, 9);
            CHECK.due("floor of 0", x.record(0, 4), left == 9 ? 4 : Math.min(3, carried));
            CHECK.due("floor of 1", x.record(1, 4), Math.max(0, Math.min(3, carried - 3)));
            CHECK.due("floor of 2", x.record(2, 4), Math.max(0, Math.min(3, carried - 6)));
            CHECK.due("left", x.about(5), left == 9 ? 8 : left == 8 ? 9 : 9 - carried);
        }
        CHECK.due("undo()", x.undo(), SinkingArchive.LATE);
        CHECK.due("the first two stand", x.record(0, 4), 2);
        CHECK.due("and what they took", x.about(5), 7);
        CHECK.due("the others do not", x.record(1, 4), 0);
    }
}
