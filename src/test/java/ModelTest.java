/** Runs of calls on the class and on the plain model, which must answer alike. */
public final class ModelTest {
    private static final int RUNS = 1500;
    private static final int CALLS = 300;
    private static long seed;

    private final Check check;
    private final SinkingArchive x = new SinkingArchive();
    private final Model m = new Model();
    private final int run;

    private ModelTest(Check check, int run) {
        this.check = check;
        this.run = run;
    }

    public static void main(String[] args) {
        Check check = new Check("ModelTest");
        for (int run = 0; run < RUNS; run++) {
            seed = 7919L * run + 12345;
            new ModelTest(check, run).go();
        }
        check.finish();
    }

    /** A row of numbers that is the same each time the test runs. */
    private static int below(int bound) {
        seed = seed * 6364136223846793005L + 1442695040888963407L;
        return (int) ((seed >>> 33) % bound);
    }

    private static boolean oneIn(int n) {
        return below(n) == 0;
    }

    private void due(String call, long got, long want) {
        check.due("run " + run + ": " + call, got, want);
    }

    private void go() {
        tell(oneIn(3));
        for (int call = 0; call < CALLS; call++) {
            if (oneIn(70)) {
                tell(oneIn(2));
            }
            some();
        }
    }

    /** A text that is often a tower, now and then with a byte that is not as it should be. */
    private void tell(boolean spoilt) {
        due("wipe()", x.wipe(), m.wipe());
        StringBuilder text = new StringBuilder(someTower());
        if (spoilt) {
            for (int i = 0; i <= below(2); i++) {
                text.setCharAt(below(text.length()), "0123456789RQTA".charAt(below(14)));
            }
            if (oneIn(3)) {
                text.setLength(below(text.length() + 1));
            }
        }
        for (int at = 0; at < text.length(); ) {
            int n = Math.min(1 + below(8), text.length() - at);
            long v = oneIn(2) ? -1 : 0;
            for (int i = 0; i < n; i++) {
                v = v << 8 | text.charAt(at + i);
            }
            due("write(" + n + ", " + v + ")", x.write(n, v), m.write(n, v));
            at += n;
        }
        due("fault() of " + text, x.fault(), m.fault());
        due("tower() of " + text, x.tower(), m.tower());
        state();
    }

    private static String someTower() {
        int f = 2 + below(4);
        int[] room = new int[f];
        StringBuilder text = new StringBuilder("T").append(f);
        int bearing = 3 + below(oneIn(2) ? 15 : 97);
        for (int g = 0; g < f; g++) {
            room[g] = oneIn(6) ? 0 : below(bearing + 1);
            text.append(room[g] / 10).append(room[g] % 10);
        }
        int records = below(9);
        int ahead = -1;
        int told = 0;
        for (int r = 0; r < 3 * records && told < records; r++) {
            int kind = below(4);
            int w = 1 + below(oneIn(2) ? 3 : 9);
            int g = kind == 3 ? ahead : Math.min(below(f), below(f));
            if (g >= 0 && room[g] >= w) {
                text.append('R').append(w).append(below(10)).append(below(10)).append(kind).append(g);
                room[g] -= w;
                ahead = g;
                told++;
            }
        }
        for (int i = below(9); told > 1 && i > 0; i--) {
            int a = below(told);
            int b = (a + 1 + below(told - 1)) % told;
            if (text.indexOf("Q" + a + b) < 0 && text.length() < 74) {
                text.append('Q').append(a).append(b);
            }
        }
        return text.toString();
    }

    private static int someRecord() {
        return oneIn(15) ? wild() : below(8);
    }

    private static int someFloor() {
        return oneIn(15) ? wild() : below(5);
    }

    private static int some(int least, int most) {
        if (oneIn(30)) {
            return wild();
        }
        return oneIn(12) ? least - 2 + below(most - least + 5) : least + below(most - least + 1);
    }

    /** A number that is hardly ever right. */
    private static int wild() {
        switch (below(6)) {
            case 0: return Integer.MIN_VALUE;
            case 1: return Integer.MAX_VALUE;
            case 2: return 1 << below(32);
            case 3: return -1 << below(32);
            default: return below(20) - 5;
        }
    }

    private void some() {
        switch (below(12)) {
            case 0: case 1: case 2: acts(); break;
            case 3: plans(); plans(); break;
            case 4: asked(); break;
            case 5: index(); break;
            case 6: floods(); break;
            case 7: slots(); break;
            case 8: told(); break;
            case 9: undoOrEffort(); break;
            default: lookedAt(); break;
        }
    }

    private void acts() {
        int r = someRecord();
        int g = someFloor();
        switch (below(6)) {
            case 0: case 1: due("carry(" + r + ", " + g + ")", x.carry(r, g), m.carry(r, g)); break;
            case 2: case 3: due("anew(" + r + ", " + g + ")", x.anew(r, g), m.anew(r, g)); break;
            case 4: due("together(" + r + ")", x.together(r), m.together(r)); break;
            default: due("decade()", x.decade(), m.decade()); break;
        }
        state();
    }

    /** More acts than are remembered, then all of them back. */
    private void manyActs() {
        due("effort(99)", x.effort(99), m.effort(99));
        for (int i = below(60); i >= 0; i--) {
            int r = below(8);
            int g = below(5);
            if (oneIn(12)) {
                due("decade()", x.decade(), m.decade());
            }
            due("carry(" + r + ", " + g + ")", x.carry(r, g), m.carry(r, g));
            due("anew(" + r + ", " + g + ")", x.anew(r, g), m.anew(r, g));
        }
        state();
        for (int i = below(13); i > 0; i--) {
            due("undo()", x.undo(), m.undo());
            state();
        }
    }

    private void undoOrEffort() {
        if (oneIn(12)) {
            manyActs();
        } else if (oneIn(2)) {
            for (int i = below(4); i >= 0; i--) {
                due("undo()", x.undo(), m.undo());
            }
        } else {
            int e = oneIn(3) ? some(0, 99) : below(15);
            due("effort(" + e + ")", x.effort(e), m.effort(e));
        }
        state();
    }

    private void plans() {
        int d = some(1, oneIn(4) ? 3 : 2);
        int r = someRecord();
        switch (below(4)) {
            case 0: due("most(" + d + ")", x.most(d), m.most(d)); break;
            case 1: due("least(" + d + ")", x.least(d), m.least(d)); break;
            default: due("planAt(" + d + ", " + r + ")", x.planAt(d, r), m.planAt(d, r)); break;
        }
    }

    private void asked() {
        due("atHand()", x.atHand(), m.atHand());
    }

    private void index() {
        int r = someRecord();
        int g = someFloor();
        if (oneIn(4)) {
            due("mend()", x.mend(), m.mend());
        } else {
            due("index(" + r + ", " + g + ")", x.index(r, g), m.index(r, g));
        }
        due("lies(true)", x.lies(true), m.lies(true));
        due("lies(false)", x.lies(false), m.lies(false));
        due("lookUp(" + r + ")", x.lookUp(r), m.lookUp(r));
    }

    private void floods() {
        int r = someRecord();
        int d = oneIn(2) ? some(1, 9) : some(1, 4);
        int tenths = some(0, 10);
        String call = "dry(" + r + ", " + d + ", " + tenths + ")";
        due(call, x.dry(r, d, tenths, true), m.dry(r, d, tenths, true));
        due(call, x.dry(r, d, tenths, false), m.dry(r, d, tenths, false));
    }

    private void slots() {
        int slot = some(0, 1);
        if (oneIn(2)) {
            due("keep(" + slot + ")", x.keep(slot), m.keep(slot));
        } else {
            due("again(" + slot + ")", x.again(slot), m.again(slot));
        }
        state();
    }

    private void told() {
        int n = some(1, 8);
        long v = (long) below(1 << 30) << 34 ^ below(1 << 30);
        if (oneIn(6)) {
            due("write(" + n + ", " + v + ")", x.write(n, v), m.write(n, v));
        }
        due("fault()", x.fault(), m.fault());
        if (oneIn(12)) {
            due("tower()", x.tower(), m.tower());
        }
        int r = someRecord();
        int o = someRecord();
        due("cites(" + r + ", " + o + ")", x.cites(r, o), m.cites(r, o));
        int what = some(0, 9);
        due("about(" + what + ")", x.about(what), m.about(what));
        due("floor(" + r + ", " + what + ")", x.floor(r, what), m.floor(r, what));
        due("record(" + r + ", " + what + ")", x.record(r, what), m.record(r, what));
    }

    private void lookedAt() {
        int minutes = oneIn(2) ? some(0, 99) : below(30);
        for (int what = 0; what < 3; what++) {
            due("dive(" + minutes + ", " + what + ")", x.dive(minutes, what), m.dive(minutes, what));
        }
        int what = some(0, 2);
        due("dive(" + minutes + ", " + what + ")", x.dive(minutes, what), m.dive(minutes, what));
    }

    /** All that can be seen of how things stand. */
    private void state() {
        for (int what = 0; what < 10; what++) {
            due("about(" + what + ")", x.about(what), m.about(what));
        }
        for (int r = 0; r < 8; r++) {
            for (int what = 0; what < 7; what++) {
                due("record(" + r + ", " + what + ")", x.record(r, what), m.record(r, what));
            }
        }
        for (int g = 0; g < 5; g++) {
            for (int what = 0; what < 3; what++) {
                due("floor(" + g + ", " + what + ")", x.floor(g, what), m.floor(g, what));
            }
        }
    }
}
