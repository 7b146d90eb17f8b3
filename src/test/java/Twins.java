import java.util.function.Supplier;

/**
 * Two objects that were made alike: one of them is asked something, the other is not, and then nothing may tell them
 * apart, neither as they stand nor on any way on (acts undone, gone on from a slot, the text taken or longer).
 */
final class Twins {
    interface Call {
        long on(SinkingArchive x);
    }

    private static final int WAYS = 17;

    private final Check check;
    private final String where;
    private final Supplier<SinkingArchive> made;

    Twins(Check check, String where, Supplier<SinkingArchive> made) {
        this.check = check;
        this.where = where;
        this.made = made;
    }

    /** The call answers so, and nothing has changed by it. */
    void due(String call, long want, Call asked) {
        for (int way = 0; way < WAYS; way++) {
            SinkingArchive x = made.get();
            SinkingArchive twin = made.get();
            check.due(where + ": " + call, asked.on(x), want);
            check.due(where + ": behind " + call + ", way " + way, goOn(x, way), goOn(twin, way));
            String differs = difference(seen(x), seen(twin));
            check.yes(where + ": nothing changed by " + call + ", way " + way + differs, differs.isEmpty());
        }
    }

    private static long goOn(SinkingArchive x, int way) {
        switch (way) {
            case 0: return 0;
            case 1: return x.again(0);
            case 2: return x.again(1);
            case 3: return x.tower();
            case 4: return x.write(1, 'R');
            case 5: return x.decade();
            default: return undone(x, way - 5);
        }
    }

    private static long undone(SinkingArchive x, int times) {
        long last = 0;
        for (int i = 0; i < times; i++) {
            last = x.undo();
        }
        return last;
    }

    private static String difference(String[] got, String[] want) {
        for (int i = 0; i < got.length && i < want.length; i++) {
            if (!got[i].equals(want[i])) {
                return ": " + got[i] + " for " + want[i];
            }
        }
        return "";
    }

    /** All that can be asked without changing anything, in some 220 calls. */
    private static String[] seen(SinkingArchive x) {
        StringBuilder all = new StringBuilder();
        for (int what = 0; what < 10; what++) {
            all.append("about ").append(what).append(' ').append(x.about(what)).append('\n');
        }
        all.append("fault ").append(x.fault()).append('\n');
        all.append("atHand ").append(x.atHand()).append('\n');
        all.append("lies ").append(x.lies(true)).append(" by ").append(x.lies(false)).append('\n');
        for (int g = 0; g < x.about(0); g++) {
            for (int what = 0; what < 3; what++) {
                all.append("floor ").append(g).append(' ').append(what).append(' ').append(x.floor(g, what)).append('\n');
            }
        }
        for (int d = 1; d < 4; d++) {
            all.append("plan ").append(d).append(' ').append(x.most(d)).append(' ').append(x.least(d)).append('\n');
            all.append("dive ").append(d).append(' ').append(x.dive(d * 33, 0)).append(' ').append(x.dive(d * 7, 2)).append('\n');
        }
        seenRecords(x, all);
        return all.toString().split("\n");
    }

    private static void seenRecords(SinkingArchive x, StringBuilder all) {
        int records = x.about(1);
        for (int r = 0; r < records; r++) {
            String name = "record " + r + ' ';
            for (int what = 0; what < 7; what++) {
                all.append(name).append(what).append(' ').append(x.record(r, what)).append('\n');
            }
            all.append(name).append("together ").append(x.together(r)).append('\n');
            all.append(name).append("planAt ").append(x.planAt(2, r)).append('\n');
            all.append(name).append("lookUp ").append(x.lookUp(r)).append('\n');
            all.append(name).append("dry ").append(x.dry(r, 2, 3, true)).append('\n');
            for (int o = 0; o < records; o++) {
                all.append(name).append("cites ").append(o).append(' ').append(x.cites(r, o)).append('\n');
            }
        }
    }
}
