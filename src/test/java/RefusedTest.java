import java.util.function.Supplier;

/**
 * Part 5 of the document: "What is refused changes nothing." Every refused call of every promise, in archives that stand
 * in several ways, by twins; and calls that only look change nothing, either.
 */
public final class RefusedTest {
    private static final int UNKNOWN = SinkingArchive.UNKNOWN, BAD = SinkingArchive.BAD;
    private static final int LATE = SinkingArchive.LATE, FULL = SinkingArchive.FULL;
    private static final int[] BELOW = {-1, Integer.MIN_VALUE};
    private static final Check CHECK = new Check("RefusedTest");

    public static void main(String[] args) {
        everywhere(new Twins(CHECK, "new", SinkingArchive::new), 0, 2);
        everywhere(new Twins(CHECK, "risen", RefusedTest::risen), 8, 5);
        everywhere(new Twins(CHECK, "long row", RefusedTest::longRow), 4, 5);
        everywhere(new Twins(CHECK, "under water", RefusedTest::underWater), 5, 3);
        text();
        acts();
        plansAndHand();
        slots();
        looks("new", SinkingArchive::new, 2);
        looks("risen", RefusedTest::risen, 5);
        looks("long row", RefusedTest::longRow, 5);
        looks("under water", RefusedTest::underWater, 3);
        CHECK.finish();
    }

    /** Eight records on five floors (floor 1 a landing, floor 3 full), one decade, the index lies, both slots kept. */
    private static SinkingArchive risen() {
        SinkingArchive x = Check.towerOf("T54000120999" + "R25300R14230R37112R99923R40002R11504R23000R62404" + "Q20Q40Q56Q03Q67");
        x.effort(20);
        x.keep(0);
        x.index(2, 0);
        x.carry(6, 2);
        x.decade();
        x.index(0, 4);
        x.effort(30);
        x.keep(1);
        x.carry(6, 4);
        x.index(5, 1);
        return x;
    }

    /** Twelve acts, of which the first two are forgotten; slot 1 alone is kept; the text is none any more. */
    private static SinkingArchive longRow() {
        SinkingArchive x = Check.towerOf("T59999999999R13100R12000R19010R14204Q01Q10");
        x.effort(99);
        for (int i = 0; i < 11; i++) {
            x.carry(i % 3, 1 + i / 3);
            if (i == 5) {
                x.decade();
                x.keep(1);
            }
        }
        x.index(1, 0);
        x.wipe();
        Check.put(x, "T2990");
        return x;
    }

    /** No floor is left; slot 0 alone is kept; no byte more has room in the text. */
    private static SinkingArchive underWater() {
        SinkingArchive x = Check.towerOf("T3999999R13100R12001R19011R14202R55522Q01Q10Q31Q41");
        x.effort(12);
        x.carry(1, 2);
        x.keep(0);
        x.decade();
        x.decade();
        x.decade();
        Check.put(x, "R10000".repeat(4) + "R0");
        return x;
    }

    /** What is refused in any archive of so many records and floors. */
    private static void everywhere(Twins twins, int records, int floors) {
        for (int bad : new int[] {0, 9, -1, Integer.MIN_VALUE, Integer.MAX_VALUE}) {
            twins.due("write(" + bad + ")", BAD, x -> x.write(bad, 'T'));
        }
        bad(twins);
        for (int no : new int[] {records, BELOW[0], BELOW[1], Integer.MAX_VALUE}) {
            unknownRecord(twins, no);
        }
        for (int no : new int[] {floors, BELOW[0], BELOW[1], Integer.MAX_VALUE}) {
            twins.due("floor(" + no + ", 0)", UNKNOWN, x -> x.floor(no, 0));
            twins.due("floor(" + no + ", 3)", UNKNOWN, x -> x.floor(no, 3));
            for (int r = 0; r < records; r += 3) {
                int known = r;
                twins.due("carry(" + r + ", " + no + ")", UNKNOWN, x -> x.carry(known, no));
                twins.due("anew(" + r + ", " + no + ")", UNKNOWN, x -> x.anew(known, no));
                twins.due("index(" + r + ", " + no + ")", UNKNOWN, x -> x.index(known, no));
            }
        }
        for (int no : new int[] {2, BELOW[0], BELOW[1], Integer.MAX_VALUE}) {
            twins.due("keep(" + no + ")", UNKNOWN, x -> x.keep(no));
            twins.due("again(" + no + ")", UNKNOWN, x -> x.again(no));
        }
        for (int r = 0; r < records; r++) {
            int known = r;
            for (int no : new int[] {7, BELOW[0], BELOW[1], Integer.MAX_VALUE}) {
                twins.due("record(" + r + ", " + no + ")", BAD, x -> x.record(known, no));
            }
            twins.due("dry(" + r + ", 10, 0)", BAD, x -> x.dry(known, 10, 0, true));
            twins.due("dry(" + r + ", 1, 11)", BAD, x -> x.dry(known, 1, 11, true));
            twins.due("planAt(4, " + r + ")", BAD, x -> x.planAt(4, known));
        }
    }

    private static void bad(Twins twins) {
        for (int no : BELOW) {
            twins.due("about(" + no + ")", BAD, x -> x.about(no));
            twins.due("effort(" + no + ")", BAD, x -> x.effort(no));
            twins.due("most(" + no + ")", BAD, x -> x.most(no));
            twins.due("least(" + no + ")", BAD, x -> x.least(no));
            twins.due("dive(" + no + ", 0)", BAD, x -> x.dive(no, 0));
            twins.due("dive(0, " + no + ")", BAD, x -> x.dive(0, no));
            twins.due("floor(0, " + no + ")", BAD, x -> x.floor(0, no));
        }
        for (int extra : new int[] {0, Integer.MAX_VALUE - 100}) {
            twins.due("about(10 and more)", BAD, x -> x.about(10 + extra));
            twins.due("effort(100 and more)", BAD, x -> x.effort(100 + extra));
            twins.due("most(4 and more)", BAD, x -> x.most(4 + extra));
            twins.due("least(4 and more)", BAD, x -> x.least(4 + extra));
            twins.due("dive(100 and more, 0)", BAD, x -> x.dive(100 + extra, 0));
            twins.due("dive(99, 3 and more)", BAD, x -> x.dive(99, 3 + extra));
            twins.due("floor(0, 3 and more)", BAD, x -> x.floor(0, 3 + extra));
        }
        twins.due("most(0)", BAD, x -> x.most(0));
        twins.due("least(0)", BAD, x -> x.least(0));
    }

    private static void unknownRecord(Twins twins, int no) {
        twins.due("record(" + no + ", 0)", UNKNOWN, x -> x.record(no, 0));
        twins.due("cites(" + no + ", 0)", UNKNOWN, x -> x.cites(no, 0));
        twins.due("cites(0, " + no + ")", UNKNOWN, x -> x.cites(0, no));
        twins.due("carry(" + no + ", 1)", UNKNOWN, x -> x.carry(no, 1));
        twins.due("together(" + no + ")", UNKNOWN, x -> x.together(no));
        twins.due("anew(" + no + ", 1)", UNKNOWN, x -> x.anew(no, 1));
        twins.due("planAt(1, " + no + ")", UNKNOWN, x -> x.planAt(1, no));
        twins.due("planAt(0, " + no + ")", UNKNOWN, x -> x.planAt(0, no));
        twins.due("index(" + no + ", 0)", UNKNOWN, x -> x.index(no, 0));
        twins.due("lookUp(" + no + ")", UNKNOWN, x -> x.lookUp(no));
        twins.due("dry(" + no + ", 1, 0)", UNKNOWN, x -> x.dry(no, 1, 0, true));
        twins.due("dry(" + no + ", 0, 0)", UNKNOWN, x -> x.dry(no, 0, 0, true));
    }

    private static void text() {
        Twins full = new Twins(CHECK, "full", RefusedTest::underWater);
        full.due("write(1)", FULL, x -> x.write(1, 'R'));
        full.due("write(8)", FULL, x -> x.write(8, 0));
        Twins nearlyFull = new Twins(CHECK, "75 bytes", RefusedTest::risen);
        for (int n = 2; n <= 8; n++) {
            int some = n;
            nearlyFull.due("write(" + n + ")", FULL, x -> x.write(some, 0));
        }
        new Twins(CHECK, "empty", SinkingArchive::new).due("tower()", LATE, SinkingArchive::tower);
        new Twins(CHECK, "not at its end", RefusedTest::longRow).due("tower()", LATE, SinkingArchive::tower);
        full.due("tower()", LATE, SinkingArchive::tower);
    }

    private static void acts() {
        Twins risen = new Twins(CHECK, "risen", RefusedTest::risen);
        risen.due("carry: drowned", LATE, x -> x.carry(0, 4));
        risen.due("carry: drowned and joined", LATE, x -> x.carry(1, 4));
        risen.due("carry: the same floor", LATE, x -> x.carry(2, 2));
        risen.due("carry: a lower floor", LATE, x -> x.carry(2, 1));
        risen.due("carry: under water", LATE, x -> x.carry(2, 0));
        risen.due("carry: from the top", LATE, x -> x.carry(5, 3));
        risen.due("carry: a full floor", LATE, x -> x.carry(2, 3));
        risen.due("together: drowned", LATE, x -> x.together(1));
        risen.due("anew: a landing", LATE, x -> x.anew(0, 1));
        risen.due("anew: under water", LATE, x -> x.anew(0, 0));
        risen.due("anew: a full floor", LATE, x -> x.anew(0, 3));
        risen.due("anew: none cites it", LATE, x -> x.anew(1, 4));
        risen.due("anew: it is there", LATE, x -> x.anew(2, 4));
        risen.due("lookUp: drowned", LATE, x -> x.lookUp(0));
        risen.due("dry: drowned", LATE, x -> x.dry(0, 1, 0, true));
        Supplier<SinkingArchive> weak = () -> {
            SinkingArchive x = risen();
            x.effort(11);
            return x;
        };
        new Twins(CHECK, "weak", weak).due("carry: too far", LATE, x -> x.carry(4, 4));
        Twins row = new Twins(CHECK, "long row", RefusedTest::longRow);
        for (int r = 0; r < 4; r++) {
            int one = r;
            row.due("carry(" + r + ", 0)", LATE, x -> x.carry(one, 0));
            row.due("anew(" + r + ", 4)", LATE, x -> x.anew(one, 4));
        }
        Twins under = new Twins(CHECK, "under water", RefusedTest::underWater);
        under.due("decade()", LATE, SinkingArchive::decade);
        for (int r = 0; r < 5; r++) {
            int one = r;
            under.due("carry(" + r + ", 2)", LATE, x -> x.carry(one, 2));
            under.due("anew(" + r + ", 2)", LATE, x -> x.anew(one, 2));
            under.due("together(" + r + ")", LATE, x -> x.together(one));
            under.due("lookUp(" + r + ")", LATE, x -> x.lookUp(one));
            under.due("dry(" + r + ", 9, 10)", LATE, x -> x.dry(one, 9, 10, false));
        }
        new Twins(CHECK, "new", SinkingArchive::new).due("undo()", LATE, SinkingArchive::undo);
        Supplier<SinkingArchive> goneOn = () -> {
            SinkingArchive x = risen();
            x.again(1);
            return x;
        };
        new Twins(CHECK, "gone on", goneOn).due("undo()", LATE, SinkingArchive::undo);
    }

    private static void plansAndHand() {
        Twins risen = new Twins(CHECK, "risen", RefusedTest::risen);
        for (int d = 1; d <= 3; d++) {
            int decades = d;
            risen.due("most(" + d + ")", LATE, x -> x.most(decades));
            risen.due("least(" + d + ")", LATE, x -> x.least(decades));
            risen.due("planAt(" + d + ", 0)", LATE, x -> x.planAt(decades, 0));
        }
        Supplier<SinkingArchive> seven = () -> {
            SinkingArchive x = risen();
            x.again(0);
            x.carry(0, 4);
            x.decade();
            return x;
        };
        new Twins(CHECK, "seven are there", seven).due("atHand()", LATE, SinkingArchive::atHand);
    }

    private static void slots() {
        Twins fresh = new Twins(CHECK, "new", SinkingArchive::new);
        fresh.due("again(0)", LATE, x -> x.again(0));
        fresh.due("again(1)", LATE, x -> x.again(1));
        new Twins(CHECK, "long row", RefusedTest::longRow).due("again(0)", LATE, x -> x.again(0));
        new Twins(CHECK, "under water", RefusedTest::underWater).due("again(1)", LATE, x -> x.again(1));
    }

    /** Calls that tell and do no more: whatever they answer, they may change nothing. */
    private static void looks(String where, Supplier<SinkingArchive> made, int floors) {
        Twins twins = new Twins(CHECK, where, made);
        SinkingArchive first = made.get();
        twins.due("fault()", first.fault(), SinkingArchive::fault);
        twins.due("atHand()", first.atHand(), SinkingArchive::atHand);
        twins.due("lies(true)", first.lies(true), x -> x.lies(true));
        twins.due("lies(false)", first.lies(false), x -> x.lies(false));
        for (int d = 1; d <= 3; d++) {
            int decades = d;
            twins.due("most(" + d + ")", first.most(d), x -> x.most(decades));
            twins.due("least(" + d + ")", first.least(d), x -> x.least(decades));
            twins.due("dive(99, 2)", first.dive(99, 2), x -> x.dive(99, 2));
        }
        for (int what = 0; what < 10; what++) {
            int some = what;
            twins.due("about(" + what + ")", first.about(what), x -> x.about(some));
        }
        for (int g = 0; g < floors; g++) {
            int one = g;
            twins.due("floor(" + g + ", 2)", first.floor(g, 2), x -> x.floor(one, 2));
        }
        for (int r = 0; r < first.about(1); r++) {
            int one = r;
            twins.due("record(" + r + ", 6)", first.record(r, 6), x -> x.record(one, 6));
            twins.due("cites(" + r + ", 0)", first.cites(r, 0), x -> x.cites(one, 0));
            twins.due("together(" + r + ")", first.together(r), x -> x.together(one));
            twins.due("planAt(3, " + r + ")", first.planAt(3, r), x -> x.planAt(3, one));
            twins.due("lookUp(" + r + ")", first.lookUp(r), x -> x.lookUp(one));
            twins.due("dry(" + r + ", 2, 5)", first.dry(r, 2, 5, true), x -> x.dry(one, 2, 5, true));
        }
    }
}
