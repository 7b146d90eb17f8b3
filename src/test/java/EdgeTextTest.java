/** Part 1 of the document and promises 1 to 5: each sentence that names a bound, on both sides of it. */
public final class EdgeTextTest {
    private static final int NONE = SinkingArchive.NONE, BAD = SinkingArchive.BAD, FULL = SinkingArchive.FULL;
    private static final int UNKNOWN = SinkingArchive.UNKNOWN, LATE = SinkingArchive.LATE;
    private static final String FIGURES = "0123456789";
    private static final String EIGHT = "T29900" + "R10000".repeat(8);
    private static final long[] EXTREMES = {Long.MIN_VALUE, Long.MAX_VALUE, -1, 0, 1, 1L << 32, 255, 256};
    private static final Check CHECK = new Check("EdgeTextTest");

    public static void main(String[] args) {
        aTowerBeginsWithT();
        floorsAreTwoToFive();
        bearsTwoFigures();
        partsNoneOrMore();
        weightOneToNine();
        worthAndAskedNoughtToNine();
        kindNoughtToThree();
        floorIsOneOfTheTower();
        floorBearsAllThatIsOnIt();
        aLandingBearsNothing();
        joinedThereMustBeOneAhead();
        joinedOnThatOnesFloor();
        joinedIsBorneToo();
        citesUnlikeOnes();
        citesBothToldAhead();
        citesNoTwoTwice();
        recordsEightAtMost();
        faultIsTheLengthIfOnlyNotAtItsEnd();
        faultLengthSetAside();
        faultIsTheFirst();
        faultOfAnEmptyText();
        newObject();
        writeOneToEightBytes();
        writeTheLowestTheHighestFirst();
        writeAnyLong();
        writeFullAtSeventySix();
        writeBadAheadOfFull();
        wipeEmptyAndFull();
        towerByTheNumberOfRecords();
        towerOfAFaultIsLate();
        towerOfAllBytes();
        towerBeginsAnew();
        towerTextStays();
        CHECK.finish();
    }

    /** Of all 256 bytes just these may come next; by each other one THE TEXT can be no TOWER. */
    private static void next(String text, String may, boolean thenWhole) {
        for (int b = 0; b < 256; b++) {
            SinkingArchive x = new SinkingArchive();
            Check.put(x, text);
            x.write(1, b);
            int fits = thenWhole ? NONE : text.length() + 1;
            CHECK.due("fault of " + text + " and byte " + b, x.fault(), may.indexOf(b) >= 0 ? fits : text.length());
        }
    }

    private static void next(String text, String may) {
        next(text, may, false);
    }

    private static void nextWhole(String text, String may) {
        next(text, may, true);
    }

    private static void dueFault(String text, int want) {
        SinkingArchive x = new SinkingArchive();
        Check.put(x, text);
        CHECK.due("length of " + text, x.about(9), text.length());
        CHECK.due("fault of " + text, x.fault(), want);
        CHECK.due("tower of " + text, x.tower() == LATE ? 1 : 0, want == NONE ? 0 : 1);
    }

    // "A TOWER is a TEXT: T, f, .."
    private static void aTowerBeginsWithT() {
        next("", "T");
    }

    // "FLOORS are 0 (lowest) .. f - 1 (f 2 .. 5)"
    private static void floorsAreTwoToFive() {
        next("T", "2345");
        for (int f = 2; f <= 5; f++) {
            SinkingArchive x = Check.towerOf("T" + f + "07".repeat(f));
            CHECK.due("floors", x.about(0), f);
            CHECK.due("the lowest", x.floor(0, 0), 7);
            CHECK.due("the highest", x.floor(f - 1, 0), 7);
            CHECK.due("one above", x.floor(f, 0), UNKNOWN);
            CHECK.due("one below", x.floor(-1, 0), UNKNOWN);
            dueFault("T" + f + "07".repeat(f - 1) + "0", 1 + 2 * f);
            dueFault("T" + f + "07".repeat(f) + "0", 2 + 2 * f);
        }
    }

    // "for each FLOOR what it BEARS (two figures, 00 .. 99)"
    private static void bearsTwoFigures() {
        next("T2", FIGURES);
        next("T29", FIGURES);
        next("T299", FIGURES);
        nextWhole("T2999", FIGURES);
        nextWhole("T500000000" + "9", FIGURES);
        SinkingArchive x = Check.towerOf("T50099010990");
        int[] want = {0, 99, 1, 9, 90};
        for (int g = 0; g < 5; g++) {
            CHECK.due("bears", x.floor(g, 0), want[g]);
        }
    }

    // "then PARTS, none or more"
    private static void partsNoneOrMore() {
        dueFault("T20900", NONE);
        next("T20900", "R");
        dueFault("T20900R10000", NONE);
        next("T20900R10000", "R");
        dueFault("T20900R10000R10000", NONE);
        next("T20900R10000R10000", "RQ");
        dueFault("T20900R10000R10000Q01", NONE);
        next("T20900R10000R10000Q01", "RQ");
    }

    // "weight w (1 .. 9)"
    private static void weightOneToNine() {
        next("T20900R", "123456789");
        SinkingArchive x = Check.towerOf("T29999R10000R90000");
        CHECK.due("least weight", x.record(0, 0), 1);
        CHECK.due("greatest weight", x.record(1, 0), 9);
    }

    // "WORTH v (0 .. 9), ASKED for a times a DECADE (0 .. 9)"
    private static void worthAndAskedNoughtToNine() {
        next("T20900R9", FIGURES);
        next("T20900R90", FIGURES);
        next("T20900R99", FIGURES);
        SinkingArchive x = Check.towerOf("T29999R10900R19000");
        CHECK.dueRecord("worth 0, asked 9", x, 0, 1, 0, 9);
        CHECK.dueRecord("worth 9, asked 0", x, 1, 1, 9, 0);
    }

    // "of KIND k (0 .. 3)"
    private static void kindNoughtToThree() {
        next("T29999R10000R100", "0123");
        SinkingArchive x = Check.towerOf("T29999R10000R10010R10020R10030");
        for (int r = 0; r < 4; r++) {
            CHECK.due("kind", x.record(r, 3), r);
        }
    }

    // "on FLOOR g"
    private static void floorIsOneOfTheTower() {
        nextWhole("T20909R9000", "01");
        nextWhole("T3090909R9000", "012");
        nextWhole("T409090909R9000", "0123");
        nextWhole("T50909090909R9000", "01234");
        SinkingArchive x = Check.towerOf("T50909090909R10000R10004");
        CHECK.due("on the lowest", x.record(0, 4), 0);
        CHECK.due("on the highest", x.record(1, 4), 4);
    }

    // "FLOOR g, which BEARS all that is on it"
    private static void floorBearsAllThatIsOnIt() {
        nextWhole("T20302R3000", "0");
        nextWhole("T20302R2000", "01");
        nextWhole("T20302R10000R2000", "01");
        nextWhole("T20302R20000R2000", "1");
        next("T20302R", "123");
        next("T20302R30000R", "12");
        next("T20302R10000R", "12");
        next("T20302R30000R20001", "Q");
        // Nine and a half dozen: what a floor bears has two figures, and so has what is on it.
        dueFault("T20012R90001R30001", NONE);
        dueFault("T20012R90001R40001", 13);
        dueFault("T21100R90000R20000", NONE);
        dueFault("T21100R90000R30000", 13);
        dueFault("T27200" + "R90000".repeat(8), NONE);
        dueFault("T27100" + "R90000".repeat(8), 49);
        SinkingArchive x = Check.towerOf("T27200" + "R90000".repeat(8));
        CHECK.due("what is on it", x.floor(0, 1), 72);
        CHECK.due("which records", x.floor(0, 2), 255);
    }

    // "a FLOOR BEARS so much (0: a LANDING)"
    private static void aLandingBearsNothing() {
        next("T20000", "");
        next("T500000000" + "00", "");
        nextWhole("T20001R1000", "1");
        nextWhole("T20100R1000", "0");
        nextWhole("T3010001R1000", "02");
    }

    // "3 JOINED with the RECORD told just ahead of it (there must be one ..)"
    private static void joinedThereMustBeOneAhead() {
        next("T29999R100", "012");
        next("T29999R90000R100", "0123");
        dueFault("T29999R10030", 10);
        dueFault("T29999R10000R10030", NONE);
        // It may be joined itself, and cites may stand between.
        dueFault("T29999R10000R10030R10030", NONE);
        dueFault("T29999R10000R10000Q01R10030", NONE);
        SinkingArchive x = Check.towerOf("T29999R10000R10001Q01R10031");
        CHECK.due("joined with record 1", x.together(2), 6);
    }

    // "(.. it is on that one's FLOOR)"
    private static void joinedOnThatOnesFloor() {
        nextWhole("T50909090909R10003R1003", "3");
        nextWhole("T50909090909R10000R1003", "0");
        nextWhole("T50909090909R10000R10004R1003", "4");
        nextWhole("T50909090909R10000R10004R1000", "01234");
    }

    private static void joinedIsBorneToo() {
        // The one floor where it may stand has no room for it: by its kind it can be no tower already.
        next("T20509R50000R100", "012");
        next("T20509R40000R100", "0123");
        next("T20509R40000R200", "012");
        next("T20509R30000R200", "0123");
    }

    // "Qij RECORD i CITES RECORD j (unlike ones .."
    private static void citesUnlikeOnes() {
        nextWhole("T20909R10000R10000Q0", "1");
        nextWhole("T20909R10000R10000Q1", "0");
        nextWhole("T20909R10000R10000R10000Q1", "02");
    }

    // ".. both told ahead of it)"
    private static void citesBothToldAhead() {
        next("T20909", "R");
        next("T20909R10000", "R");
        next("T20909R10000R10000", "RQ");
        next("T20909R10000R10000Q", "01");
        next("T20909R10000R10000R10000Q", "012");
        nextWhole("T20909R10000R10000R10000Q0", "12");
        next(EIGHT + "Q", "01234567");
        nextWhole(EIGHT + "Q0", "1234567");
        nextWhole(EIGHT + "Q7", "0123456");
        dueFault("T20909R10000R10000Q02R10000", 20);
    }

    // "no two twice"
    private static void citesNoTwoTwice() {
        next("T20909R10000R10000Q01Q", "1");
        nextWhole("T20909R10000R10000Q01Q1", "0");
        next("T20909R10000R10000Q01Q10", "R");
        // By one that has cited all others no more may come, by the last that has not one may.
        next("T20909R10000R10000Q10", "RQ");
        next("T20909R10000R10000Q10Q", "0");
        String three = "T20909R10000R10000R10000";
        next(three + "Q10Q12Q20Q21Q01", "RQ");
        next(three + "Q10Q12Q20Q21Q01Q", "0");
        next(three + "Q01Q02Q20Q21Q10Q", "1");
        nextWhole(three + "Q01Q0", "2");
        nextWhole(three + "Q01Q1", "02");
        next(three + "Q01Q02Q", "12");
        next(three + "Q01Q02Q10Q12Q20Q", "2");
        nextWhole(three + "Q01Q02Q10Q12Q20Q2", "1");
        next(three + "Q01Q02Q10Q12Q20Q21", "R");
        // The other way round is another cite.
        SinkingArchive x = Check.towerOf("T20909R10000R10000Q01Q10");
        CHECK.due("cites(0, 1)", x.cites(0, 1), 1);
        CHECK.due("cites(1, 0)", x.cites(1, 0), 1);
    }

    // "RECORDS are 0, 1, .. (8 at most)"
    private static void recordsEightAtMost() {
        next("T29900" + "R10000".repeat(7), "RQ");
        next(EIGHT, "Q");
        dueFault(EIGHT, NONE);
        dueFault(EIGHT + "R", 54);
        dueFault(EIGHT + "R10000", 54);
        SinkingArchive x = Check.towerOf(EIGHT);
        CHECK.due("the last one", x.record(7, 0), 1);
        CHECK.due("one more", x.record(8, 0), UNKNOWN);
    }

    // "its length, if it is only not at its end; NONE: none"
    private static void faultIsTheLengthIfOnlyNotAtItsEnd() {
        String text = "T50909090909R19921R19931Q01R90000Q20";
        int whole = 12;
        for (int length = 0; length <= text.length(); length++) {
            boolean ends = length == whole;
            dueFault(text.substring(0, length), ends ? NONE : length);
            if (ends && length < text.length()) {
                whole += text.charAt(length) == 'R' ? 6 : 3;
            }
        }
    }

    // "(its length set aside)": a text that no room is left to end is not at its end, and no more.
    private static void faultLengthSetAside() {
        String seven = "T50909090909" + "R10000".repeat(7) + "Q01Q02Q03Q04Q05Q06";
        dueFault(seven, NONE);
        dueFault(seven + "R", 73);
        dueFault(seven + "R123", 76);
        dueFault(EIGHT + "Q01Q02Q03Q04Q05Q06Q07", NONE);
        dueFault(EIGHT + "Q01Q02Q03Q04Q05Q06Q07Q", 76);
        dueFault(EIGHT + "Q01Q02Q03Q04Q05Q06Q07R", 75);
        dueFault(EIGHT + "Q01Q02Q03Q04Q05Q06Q07T", 75);
    }

    // "the place (from 0) of the first byte by which THE TEXT can be no TOWER, whatever came behind it"
    private static void faultIsTheFirst() {
        dueFault("XXXXXX", 0);
        dueFault("T9X", 1);
        dueFault("T20909R0Q", 7);
        dueFault("T20909XR10000", 6);
        dueFault("T20909R10009R0", 11);
        dueFault("T20909R1000Q", 11);
        dueFault("T20909R10000R10000Q0RQ", 20);
    }

    private static void faultOfAnEmptyText() {
        SinkingArchive x = new SinkingArchive();
        CHECK.due("fault()", x.fault(), 0);
        CHECK.due("tower()", x.tower(), LATE);
        x.write(1, 'T');
        CHECK.due("fault()", x.fault(), 1);
        x.wipe();
        CHECK.due("fault()", x.fault(), 0);
    }

    // "At first there are two FLOORS that BEAR nothing." "SinkingArchive(): Two FLOORS, nothing."
    private static void newObject() {
        SinkingArchive x = new SinkingArchive();
        CHECK.dueAbout("new", x, 2, 0, 0, 0, 9, 9, 0, 0, 0, 0);
        for (int what = 0; what < 3; what++) {
            CHECK.due("floor 0", x.floor(0, what), 0);
            CHECK.due("floor 1", x.floor(1, what), 0);
        }
        CHECK.due("no floor 2", x.floor(2, 0), UNKNOWN);
        CHECK.due("no record 0", x.record(0, 0), UNKNOWN);
        CHECK.due("two decades", x.decade() + x.decade(), 0);
        CHECK.due("no third one", x.decade(), LATE);
    }

    // "n bytes (1 .. 8)"
    private static void writeOneToEightBytes() {
        for (int n = 1; n <= 8; n++) {
            SinkingArchive x = new SinkingArchive();
            CHECK.due("write(" + n + ")", x.write(n, 0), n);
            CHECK.due("write(" + n + ")", x.write(n, 0), 2 * n);
            CHECK.due("bytes", x.about(9), 2 * n);
        }
        SinkingArchive x = new SinkingArchive();
        for (int n : new int[] {0, 9, -1, 10, 64, Integer.MIN_VALUE, Integer.MAX_VALUE, 1 << 8 | 1, -8}) {
            CHECK.due("write(" + n + ")", x.write(n, 'T'), BAD);
            CHECK.due("bytes", x.about(9), 0);
        }
    }

    // "n bytes .. of v, the lowest n, the highest of these first"
    private static void writeTheLowestTheHighestFirst() {
        String text = "T20901R19921R19000R10130Q01Q02Q10Q12Q20Q21";
        for (int n = 1; n <= 8; n++) {
            for (long above : new long[] {0, -1, 0x5151515151515151L}) {
                SinkingArchive x = new SinkingArchive();
                int at = 0;
                while (at < text.length()) {
                    int some = Math.min(n, text.length() - at);
                    long v = above;
                    for (int i = 0; i < some; i++) {
                        v = v << 8 | text.charAt(at + i);
                    }
                    at += some;
                    CHECK.due("write(" + some + ", " + v + ")", x.write(some, v), at);
                }
                CHECK.due("by " + n + " bytes: fault()", x.fault(), NONE);
                CHECK.due("by " + n + " bytes: tower()", x.tower(), 3);
                CHECK.dueRecord("by " + n + " bytes", x, 0, 1, 9, 9, 2, 1);
            }
        }
    }

    /** Where a byte of v stands in THE TEXT is seen by the first of its bytes that is not a figure. */
    private static void writeAnyLong() {
        for (long v : EXTREMES) {
            for (int n = 1; n <= 8; n++) {
                SinkingArchive x = new SinkingArchive();
                Check.put(x, "T5");
                CHECK.due("write(" + n + ", " + v + ")", x.write(n, v), 2 + n);
                CHECK.due("fault behind write(" + n + ", " + v + ")", x.fault(), 2);
            }
        }
        SinkingArchive x = new SinkingArchive();
        CHECK.due("T and seven bytes 255", x.write(8, 'T' + (-1L << 8)), 8);
        CHECK.due("255 comes first", x.fault(), 0);
        x.wipe();
        CHECK.due("T first", x.write(8, (long) 'T' << 56), 8);
        CHECK.due("then 0", x.fault(), 1);
        x.wipe();
        CHECK.due("the lowest one alone", x.write(1, Long.MIN_VALUE + 'T'), 1);
        CHECK.due("T alone", x.fault(), 1);
        x.wipe();
        CHECK.due("the lowest one alone", x.write(1, Long.MAX_VALUE), 1);
        CHECK.due("255 alone", x.fault(), 0);
    }

    // "FULL: it would be longer than 76 (nothing comes)"
    private static void writeFullAtSeventySix() {
        for (int n = 1; n <= 8; n++) {
            SinkingArchive x = new SinkingArchive();
            Check.put(x, "T".repeat(76 - n));
            if (n < 8) {
                CHECK.due("one too many: write(" + (n + 1) + ")", x.write(n + 1, 0), FULL);
                CHECK.due("nothing came", x.about(9), 76 - n);
            }
            CHECK.due("just all: write(" + n + ")", x.write(n, 0), 76);
            CHECK.due("one too many", x.write(1, 0), FULL);
            CHECK.due("eight too many", x.write(8, 0), FULL);
            CHECK.due("bytes", x.about(9), 76);
        }
    }

    // "BAD; FULL": of several what is told first.
    private static void writeBadAheadOfFull() {
        SinkingArchive x = new SinkingArchive();
        Check.put(x, "T".repeat(76));
        for (int n : new int[] {0, 9, -1, Integer.MIN_VALUE, Integer.MAX_VALUE}) {
            CHECK.due("write(" + n + ")", x.write(n, 0), BAD);
        }
        CHECK.due("write(1)", x.write(1, 0), FULL);
    }

    // "THE TEXT is empty: how long it was."
    private static void wipeEmptyAndFull() {
        SinkingArchive x = new SinkingArchive();
        CHECK.due("empty", x.wipe(), 0);
        x.write(1, 'T');
        CHECK.due("one byte", x.wipe(), 1);
        CHECK.due("empty", x.wipe(), 0);
        Check.put(x, "Z".repeat(76));
        CHECK.due("full", x.wipe(), 76);
        CHECK.due("bytes", x.about(9), 0);
        Check.put(x, "T" + "20909R10000");
        CHECK.due("nothing of it is left", x.fault(), NONE);
    }

    // "THE TEXT is THE TOWER ..: how many RECORDS"
    private static void towerByTheNumberOfRecords() {
        for (int n = 0; n <= 8; n++) {
            SinkingArchive x = new SinkingArchive();
            Check.put(x, "T29900" + "R10000".repeat(n));
            CHECK.due("tower()", x.tower(), n);
            CHECK.due("records", x.about(1), n);
            CHECK.due("which", x.floor(0, 2), (1 << n) - 1);
            CHECK.due("one more", x.record(n, 0), UNKNOWN);
            CHECK.due("one less than 0", x.record(-1, 0), UNKNOWN);
        }
    }

    // "LATE: a FAULT."
    private static void towerOfAFaultIsLate() {
        SinkingArchive x = Check.towerOf("T20909R10000");
        x.decade();
        Check.put(x, "R");
        CHECK.due("not at its end", x.tower(), LATE);
        CHECK.dueAbout("as it was", x, 2, 1, 1, 1, 9, 9, 1, 0, 0, 13);
        Check.put(x, "0");
        CHECK.due("a fault", x.tower(), LATE);
        CHECK.dueAbout("as it was", x, 2, 1, 1, 1, 9, 9, 1, 0, 0, 14);
        x.wipe();
        CHECK.due("an empty one", x.tower(), LATE);
        CHECK.dueAbout("as it was", x, 2, 1, 1, 1, 9, 9, 1, 0, 0, 0);
        Check.put(x, "T50000000000");
        CHECK.due("none", x.tower(), 0);
        CHECK.dueAbout("another", x, 5, 0, 0, 0, 9, 9, 0, 0, 0, 12);
    }

    // "THE TEXT is bytes (76 at most)": a tower that has them all.
    private static void towerOfAllBytes() {
        String text = "T499000072" + "R90000".repeat(7) + "R99933" + "Q67Q70Q07Q17Q10Q01";
        SinkingArchive x = new SinkingArchive();
        Check.put(x, text);
        CHECK.due("bytes", x.about(9), 76);
        CHECK.due("a joined one on another floor", x.fault(), 57);
        x.wipe();
        Check.put(x, text.replace("R99933", "R99923"));
        CHECK.due("fault()", x.fault(), NONE);
        CHECK.due("tower()", x.tower(), 8);
        CHECK.dueAbout("told", x, 4, 8, 0, 0, 9, 9, 0, 0, 27, 76);
        CHECK.due("the last cite", x.cites(0, 1), 1);
        CHECK.due("one more byte", x.write(1, 'Q'), FULL);
        CHECK.due("fault()", x.fault(), NONE);
    }

    // "(.. WATER 0, no ACTS, EFFORT 9, what was kept is gone)"
    private static void towerBeginsAnew() {
        SinkingArchive x = Check.towerOf("T20909R12310R13201");
        x.effort(99);
        x.carry(0, 1);
        x.decade();
        x.index(1, 0);
        x.keep(0);
        x.keep(1);
        x.decade();
        CHECK.dueAbout("ahead", x, 2, 2, 2, 2, 99, 99, 3, 0, 0, 18);
        CHECK.due("tower()", x.tower(), 2);
        CHECK.dueAbout("anew", x, 2, 2, 0, 0, 9, 9, 0, 5, 2, 18);
        CHECK.dueRecord("anew", x, 0, 1, 2, 3, 1, 0, 0, 0);
        CHECK.dueRecord("the index as it is", x, 1, 1, 3, 2, 0, 1, 0, 1);
        CHECK.due("no acts", x.undo(), LATE);
        CHECK.due("slot 0 is gone", x.again(0), LATE);
        CHECK.due("slot 1 is gone", x.again(1), LATE);
        CHECK.due("two decades", x.decade() + x.decade(), 3);
        CHECK.due("and no more", x.decade(), LATE);
        // Fewer floors and fewer records than there were.
        x.wipe();
        Check.put(x, "T20000");
        CHECK.due("tower()", x.tower(), 0);
        CHECK.due("no record", x.record(0, 4), UNKNOWN);
        CHECK.due("nothing on it", x.floor(1, 1) + x.floor(1, 2), 0);
        CHECK.due("kept", x.about(7), 0);
        CHECK.due("drowned", x.about(2), 0);
    }

    // "(THE TEXT itself stays ..)"
    private static void towerTextStays() {
        SinkingArchive x = Check.towerOf("T20909");
        CHECK.due("bytes", x.about(9), 6);
        CHECK.due("fault()", x.fault(), NONE);
        Check.put(x, "R12345");
        CHECK.due("more of it", x.fault(), 10);
        CHECK.due("the tower stays", x.about(1), 0);
        x.wipe();
        Check.put(x, "T20909R12311");
        CHECK.due("tower()", x.tower(), 1);
        Check.put(x, "R1");
        CHECK.due("bytes", x.about(9), 14);
        CHECK.due("records", x.about(1), 1);
    }
}
