/** Compares answers with what is due, and tells a test's end by its exit code. */
final class Check {
    private final String name;
    private int asked;
    private int wrong;

    Check(String name) {
        this.name = name;
    }

    void due(String call, long got, long want) {
        asked++;
        if (got != want) {
            wrong++;
            System.out.println(name + ": " + call + " answered " + got + ", due is " + want);
        }
    }

    void yes(String what, boolean holds) {
        due(what, holds ? 1 : 0, 1);
    }

    /** The answers of about(0) .. about(9) in a row. */
    void dueAbout(String when, SinkingArchive x, int... want) {
        for (int what = 0; what < want.length; what++) {
            due(when + ": about(" + what + ")", x.about(what), want[what]);
        }
    }

    void dueRecord(String when, SinkingArchive x, int record, int... want) {
        for (int what = 0; what < want.length; what++) {
            due(when + ": record(" + record + ", " + what + ")", x.record(record, what), want[what]);
        }
    }

    void finish() {
        System.out.println(name + ": " + (asked - wrong) + " of " + asked + " answers are as due");
        if (wrong != 0) {
            System.exit(1);
        }
    }

    static void put(SinkingArchive x, String text) {
        for (int i = 0; i < text.length(); i++) {
            x.write(1, text.charAt(i));
        }
    }

    static SinkingArchive towerOf(String text) {
        SinkingArchive x = new SinkingArchive();
        put(x, text);
        if (x.tower() < 0) {
            throw new IllegalStateException("the test's own text is no tower: " + text + " by " + x.fault());
        }
        return x;
    }
}
