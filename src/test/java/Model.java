import java.math.BigInteger;
import java.util.ArrayDeque;
import java.util.ArrayList;
import java.util.Deque;
import java.util.HashSet;
import java.util.List;
import java.util.Set;
import java.util.regex.Matcher;
import java.util.regex.Pattern;

/** The document once more, in its slowest and plainest form: everything is tried, nothing is cut short. */
final class Model {
    static final int UNKNOWN = -1, BAD = -2, LATE = -3, FULL = -4, NONE = -9;

    static final class Rec implements Cloneable {
        int w, v, a, k, g, said;
        boolean wet;

        Rec copy() {
            try {
                return (Rec) clone();
            } catch (CloneNotSupportedException e) {
                throw new IllegalStateException(e);
            }
        }
    }

    static final class World {
        List<Rec> recs = new ArrayList<>();
        int water, effort = 9, left = 9;

        World copy() {
            World c = new World();
            for (Rec r : recs) {
                c.recs.add(r.copy());
            }
            c.water = water;
            c.effort = effort;
            c.left = left;
            return c;
        }
    }

    private static final Pattern TOWER = Pattern.compile("T([2-5])(\\d*?)((?:R[1-9]\\d\\d[0-3][0-4]|Q[0-7][0-7])*)");

    private String text = "";
    private int[] bears = {0, 0};
    private Set<String> quotes = new HashSet<>();
    private World w = new World();
    private Deque<World> acts = new ArrayDeque<>();
    private final World[] slots = new World[2];

    // ---- the tower

    int write(int n, long v) {
        if (n < 1 || n > 8) {
            return BAD;
        }
        if (text.length() + n > 76) {
            return FULL;
        }
        byte[] all = new byte[8];
        for (int i = 0; i < 8; i++) {
            all[7 - i] = (byte) (v >> (8 * i));
        }
        for (int i = 8 - n; i < 8; i++) {
            text += (char) (all[i] & 0xFF);
        }
        return text.length();
    }

    int wipe() {
        int was = text.length();
        text = "";
        return was;
    }

    /** What a whole text tells; null if it is no tower. */
    private static Model read(String text) {
        Matcher m = TOWER.matcher(text);
        if (!m.matches() || m.group(2).length() != 2 * Integer.parseInt(m.group(1))) {
            return null;
        }
        Model t = new Model();
        t.bears = new int[Integer.parseInt(m.group(1))];
        for (int i = 0; i < t.bears.length; i++) {
            t.bears[i] = Integer.parseInt(m.group(2).substring(2 * i, 2 * i + 2));
        }
        Matcher part = Pattern.compile("R.{5}|Q..").matcher(m.group(3));
        while (part.find()) {
            if (!t.add(part.group())) {
                return null;
            }
        }
        return t;
    }

    private boolean add(String part) {
        if (part.charAt(0) == 'Q') {
            int i = part.charAt(1) - '0';
            int j = part.charAt(2) - '0';
            return i != j && i < w.recs.size() && j < w.recs.size() && quotes.add(i + "," + j);
        }
        Rec r = new Rec();
        r.w = part.charAt(1) - '0';
        r.v = part.charAt(2) - '0';
        r.a = part.charAt(3) - '0';
        r.k = part.charAt(4) - '0';
        r.g = part.charAt(5) - '0';
        r.said = r.g;
        if (r.k == 3 && (w.recs.isEmpty() || w.recs.get(w.recs.size() - 1).g != r.g)) {
            return false;
        }
        w.recs.add(r);
        return w.recs.size() <= 8 && r.g < bears.length && load(w, r.g) <= bears[r.g];
    }

    private static int load(World x, int floor) {
        int sum = 0;
        for (Rec r : x.recs) {
            sum += !r.wet && r.g == floor ? r.w : 0;
        }
        return sum;
    }

    /** Whether some text that begins so is a tower: if any is, one is that ends with the part that is begun. */
    private static boolean canBecome(String head) {
        List<String> tails = new ArrayList<>();
        int header = head.length() > 1 && head.charAt(1) >= '2' && head.charAt(1) <= '5' ? 2 + 2 * (head.charAt(1) - '0') : 6;
        if (head.length() < header) {
            String filled = "T20000".substring(0, Math.min(2, head.length())).isEmpty() ? "T20000" : head;
            if (filled.length() == 1) {
                filled += "20000";
            }
            while (filled.length() < header) {
                filled += "0";
            }
            return filled.startsWith(head) && read(filled) != null;
        }
        int at = header;
        int size = 0;
        while (at < head.length()) {
            size = head.charAt(at) == 'R' ? 6 : 3;
            at += size;
        }
        tails.add(head);
        for (int i = head.length(); i < at; i++) {
            List<String> longer = new ArrayList<>();
            for (String t : tails) {
                // Worth and asked for are free.
                int kinds = size == 6 && (at - i == 4 || at - i == 3) ? 1 : 10;
                for (int f = 0; f < kinds; f++) {
                    longer.add(t + f);
                }
            }
            tails = longer;
        }
        for (String t : tails) {
            if (read(t) != null) {
                return true;
            }
        }
        return false;
    }

    int fault() {
        if (read(text) != null) {
            return NONE;
        }
        for (int p = 0; p < text.length(); p++) {
            if (!canBecome(text.substring(0, p + 1))) {
                return p;
            }
        }
        return text.length();
    }

    int tower() {
        Model t = read(text);
        if (t == null) {
            return LATE;
        }
        bears = t.bears;
        quotes = t.quotes;
        w = t.w;
        acts.clear();
        slots[0] = null;
        slots[1] = null;
        return w.recs.size();
    }

    private static int kept(World x) {
        int sum = 0;
        for (Rec r : x.recs) {
            sum += r.wet || r.k == 2 ? 0 : r.v;
        }
        return sum;
    }

    int about(int what) {
        int wet = 0;
        int steps = 0;
        for (Rec r : w.recs) {
            wet += r.wet ? 1 : 0;
            steps += r.wet ? 0 : r.a * (r.g - w.water);
        }
        int[] all = {bears.length, w.recs.size(), wet, w.water, w.effort, w.left, acts.size(), kept(w), steps, text.length()};
        return what < 0 || what > 9 ? BAD : all[what];
    }

    private boolean isFloor(int floor) {
        return floor >= 0 && floor < bears.length;
    }

    private boolean isRec(int record) {
        return record >= 0 && record < w.recs.size();
    }

    int floor(int floor, int what) {
        if (!isFloor(floor)) {
            return UNKNOWN;
        }
        int set = 0;
        for (int r = 0; r < w.recs.size(); r++) {
            set += w.recs.get(r).g == floor ? 1 << r : 0;
        }
        boolean under = floor < w.water;
        return what == 0 ? bears[floor] : what == 1 ? under ? 0 : load(w, floor) : what == 2 ? under ? 0 : set : BAD;
    }

    int record(int record, int what) {
        if (!isRec(record)) {
            return UNKNOWN;
        }
        Rec r = w.recs.get(record);
        int[] all = {r.w, r.v, r.a, r.k, r.g, r.wet ? 1 : 0, r.said};
        return what < 0 || what > 6 ? BAD : all[what];
    }

    int cites(int record, int other) {
        return !isRec(record) || !isRec(other) ? UNKNOWN : quotes.contains(record + "," + other) ? 1 : 0;
    }

    int effort(int e) {
        if (e < 0 || e > 99) {
            return BAD;
        }
        int was = w.effort;
        w.effort = e;
        w.left = w.left + e < was ? 0 : w.left + e - was;
        return was;
    }

    // ---- acts

    private void act() {
        acts.addLast(w.copy());
        if (acts.size() > 10) {
            acts.removeFirst();
        }
    }

    /** By spreading from one to the next until nothing more is reached. */
    private static Set<Integer> group(World x, int record) {
        Set<Integer> in = new HashSet<>();
        in.add(record);
        for (int round = 0; round < 8; round++) {
            for (int r = 1; r < x.recs.size(); r++) {
                boolean joined = x.recs.get(r).k == 3 && !x.recs.get(r).wet && !x.recs.get(r - 1).wet;
                if (joined && (in.contains(r) || in.contains(r - 1))) {
                    in.add(r);
                    in.add(r - 1);
                }
            }
        }
        return in;
    }

    int carry(int record, int floor) {
        if (!isRec(record) || !isFloor(floor)) {
            return UNKNOWN;
        }
        World then = w.copy();
        int takes = 0;
        for (int r : group(w, record)) {
            Rec x = then.recs.get(r);
            takes += x.w * (floor - x.g);
            if (x.wet || floor <= x.g) {
                return LATE;
            }
            x.g = floor;
        }
        if (takes > w.left || load(then, floor) > bears[floor]) {
            return LATE;
        }
        act();
        w = then;
        w.left -= takes;
        return takes;
    }

    int together(int record) {
        if (!isRec(record)) {
            return UNKNOWN;
        }
        if (w.recs.get(record).wet) {
            return LATE;
        }
        int set = 0;
        for (int r : group(w, record)) {
            set |= 1 << r;
        }
        return set;
    }

    private static int sink(World x) {
        int set = 0;
        for (int r = 0; r < x.recs.size(); r++) {
            Rec rec = x.recs.get(r);
            if (!rec.wet && rec.g == x.water) {
                rec.wet = true;
                set |= 1 << r;
            }
        }
        x.water++;
        for (Rec rec : x.recs) {
            if (rec.g == x.water && rec.k != 1 && rec.v > 0) {
                rec.v--;
            }
        }
        x.left = x.effort;
        return set;
    }

    int decade() {
        if (w.water == bears.length) {
            return LATE;
        }
        act();
        return sink(w);
    }

    int anew(int record, int floor) {
        if (!isRec(record) || !isFloor(floor)) {
            return UNKNOWN;
        }
        Rec x = w.recs.get(record);
        int citing = 0;
        for (int r = 0; r < w.recs.size(); r++) {
            citing += !w.recs.get(r).wet && quotes.contains(r + "," + record) ? 1 : 0;
        }
        if (!x.wet || citing < 2 || floor < w.water || load(w, floor) + x.w > bears[floor]) {
            return LATE;
        }
        act();
        x.wet = false;
        x.g = floor;
        x.k = 1;
        if (isRec(record + 1) && w.recs.get(record + 1).k == 3) {
            w.recs.get(record + 1).k = 0;
        }
        return citing;
    }

    int undo() {
        if (acts.isEmpty()) {
            return LATE;
        }
        World was = acts.removeLast();
        for (int r = 0; r < w.recs.size(); r++) {
            was.recs.get(r).said = w.recs.get(r).said;
        }
        w = was;
        return acts.size();
    }

    // ---- plans

    private int bestKept, bestSpent;
    private List<Integer> bestFirst;

    private int there() {
        int n = 0;
        for (Rec r : w.recs) {
            n += r.wet ? 0 : 1;
        }
        return n;
    }

    private void carriedInAllWays(World from, World to, int record, int d, int spent, List<Integer> first) {
        if (record == to.recs.size()) {
            int takes = 0;
            for (int r = 0; r < to.recs.size(); r++) {
                takes += to.recs.get(r).w * (to.recs.get(r).g - from.recs.get(r).g);
            }
            boolean borne = takes <= to.left;
            for (int g = to.water; g < bears.length; g++) {
                borne &= load(to, g) <= bears[g];
            }
            if (borne) {
                List<Integer> floors = new ArrayList<>();
                for (Rec r : to.recs) {
                    floors.add(r.g);
                }
                World next = to.copy();
                if (next.water < bears.length) {
                    sink(next);
                }
                plans(next, d - 1, spent + takes, first == null ? floors : first);
            }
            return;
        }
        Rec r = to.recs.get(record);
        int was = r.g;
        for (int g = was; g < bears.length; g++) {
            boolean free = g == was || !r.wet;
            boolean withAhead = r.k != 3 || r.wet || to.recs.get(record - 1).wet || to.recs.get(record - 1).g == g;
            if (free && withAhead) {
                r.g = g;
                carriedInAllWays(from, to, record + 1, d, spent, first);
            }
        }
        r.g = was;
    }

    private void plans(World x, int d, int spent, List<Integer> first) {
        if (d == 0) {
            int kept = kept(x);
            int by = kept != bestKept ? kept - bestKept : bestSpent - spent;
            for (int r = 0; by == 0 && r < first.size(); r++) {
                by = bestFirst.get(r) - first.get(r);
            }
            if (by > 0) {
                bestKept = kept;
                bestSpent = spent;
                bestFirst = first;
            }
            return;
        }
        carriedInAllWays(x, x.copy(), 0, d, spent, first);
    }

    private int planned(int d) {
        if (d < 1 || d > 3) {
            return BAD;
        }
        if (there() > 4) {
            return LATE;
        }
        bestKept = -1;
        plans(w, d, 0, null);
        return 0;
    }

    int most(int d) {
        int refusal = planned(d);
        return refusal < 0 ? refusal : bestKept;
    }

    int least(int d) {
        int refusal = planned(d);
        return refusal < 0 ? refusal : bestSpent;
    }

    int planAt(int d, int record) {
        if (!isRec(record)) {
            return UNKNOWN;
        }
        int refusal = planned(d);
        return refusal < 0 ? refusal : bestFirst.get(record);
    }

    // ---- asked, index

    private int fewestSteps(World x, int record) {
        if (record == x.recs.size()) {
            int steps = 0;
            for (int g = x.water; g < bears.length; g++) {
                if (load(x, g) > bears[g]) {
                    return Integer.MAX_VALUE;
                }
            }
            for (Rec r : x.recs) {
                steps += r.wet ? 0 : r.a * (r.g - x.water);
            }
            return steps;
        }
        Rec r = x.recs.get(record);
        if (r.wet) {
            return fewestSteps(x, record + 1);
        }
        int fewest = Integer.MAX_VALUE;
        for (int g = x.water; g < bears.length; g++) {
            if (r.k != 3 || x.recs.get(record - 1).g == g) {
                r.g = g;
                fewest = Math.min(fewest, fewestSteps(x, record + 1));
            }
        }
        return fewest;
    }

    int atHand() {
        return there() > 6 ? LATE : fewestSteps(w.copy(), 0);
    }

    int index(int record, int floor) {
        if (!isRec(record) || !isFloor(floor)) {
            return UNKNOWN;
        }
        int was = w.recs.get(record).said;
        w.recs.get(record).said = floor;
        return was;
    }

    int lookUp(int record) {
        if (!isRec(record)) {
            return UNKNOWN;
        }
        Rec r = w.recs.get(record);
        if (r.wet) {
            return LATE;
        }
        List<Integer> way = new ArrayList<>();
        for (int g = w.water; g < bears.length; g++) {
            way.add(g);
        }
        if (way.remove((Integer) r.said)) {
            way.add(0, r.said);
        }
        return way.indexOf(r.g) + 1;
    }

    private static long fraction(long above, long below, boolean upper) {
        long common = BigInteger.valueOf(above).gcd(BigInteger.valueOf(below)).longValue();
        return (upper ? above : below) / common;
    }

    private int wrong() {
        int n = 0;
        for (Rec r : w.recs) {
            n += !r.wet && r.said != r.g ? 1 : 0;
        }
        return n;
    }

    int lies(boolean upper) {
        return (int) fraction(wrong(), Math.max(1, there()), upper);
    }

    int mend() {
        int n = wrong();
        for (Rec r : w.recs) {
            r.said = r.wet ? r.said : r.g;
        }
        return n;
    }

    // ---- diver, floods

    int dive(int m, int what) {
        if (m < 0 || m > 99 || what < 0 || what > 2) {
            return BAD;
        }
        int[] best = {0, 0, 0};
        for (int set = 255; set > 0; set--) {
            int[] one = {0, 0, set};
            boolean can = set < 1 << w.recs.size();
            for (int r = 0; can && r < 8; r++) {
                if ((set & 1 << r) != 0) {
                    Rec x = w.recs.get(r);
                    int depth = w.water - x.g;
                    can = x.wet;
                    one[0] += (x.k == 1 ? 10 : depth > 5 ? 0 : 10 - 2 * depth) * (x.k == 2 ? 0 : x.v);
                    one[1] += 2 * depth + x.w;
                }
            }
            boolean notWorse = one[0] > best[0] || one[0] == best[0] && one[1] <= best[1];
            if (can && one[1] <= m && notWorse) {
                best = one;
            }
        }
        return best[what];
    }

    /** By going through every row of floods, one decade after another. */
    private static long dryRows(int water, int d, int x, int place) {
        if (d == 0) {
            return water <= place ? 1 : 0;
        }
        return x * dryRows(water + 2, d - 1, x, place) + (10 - x) * dryRows(water + 1, d - 1, x, place);
    }

    long dry(int record, int d, int x, boolean upper) {
        if (!isRec(record)) {
            return UNKNOWN;
        }
        if (d < 1 || d > 9 || x < 0 || x > 10) {
            return BAD;
        }
        if (w.recs.get(record).wet) {
            return LATE;
        }
        return fraction(dryRows(w.water, d, x, w.recs.get(record).g), BigInteger.TEN.pow(d).longValue(), upper);
    }

    // ---- slots

    int keep(int slot) {
        if (slot != 0 && slot != 1) {
            return UNKNOWN;
        }
        slots[slot] = w.copy();
        return w.water;
    }

    int again(int slot) {
        if (slot != 0 && slot != 1) {
            return UNKNOWN;
        }
        if (slots[slot] == null) {
            return LATE;
        }
        w = slots[slot].copy();
        acts.clear();
        return w.water;
    }
}
