import java.util.ArrayDeque;
import java.util.ArrayList;
import java.util.Deque;
import java.util.List;

/**
 * The document once more, as slow and plain as can be: products that may not wrap around, searches step by step,
 * and a state that is copied for each undoable call. RandomRunsTest compares the program with it.
 */
final class NaiveEstimator {
    private static final int[] LEAST = {900, 0, 0, 1, 0, 0, 1, 0, 2000, 0, 1000, 500};
    private static final int[] MOST = {1000, 10000, 20000, 50, 1000, 100, 10000, 50, 5000, 10000, 4000, 10000};

    private static final class Anchor {
        private final int kind;
        private final int soc;
        private final int time;
        private final long capacity;

        Anchor(int kind, int soc, int time, long capacity) {
            this.kind = kind;
            this.soc = soc;
            this.time = time;
            this.capacity = capacity;
        }
    }

    private static final class Data {
        private int[] settings = {995, 500, 5000, 10, 20, 2, 1800, 5, 4150, 100, 2900, 4000};
        private int[] lower = {3000, 3300, 3450, 3520, 3560, 3600, 3650, 3730, 3830, 3950, 4100};
        private int[] upper = new int[11];
        private long n = 7200000;
        private long c = n;
        private long q = n / 2;
        private long lo = 0;
        private long hi = n;
        private long hq = 0;
        private long throughput = 0;
        private long counted = 0;
        private int time = 0;
        private int rest = 0;
        private int full = 0;
        private int conflicts = 0;
        private int learnings = 0;
        private Integer voltageBefore = null;
        private boolean emptyBefore = false;
        private Anchor latest = null;
        private List<Anchor> log = new ArrayList<>();

        Data() {
            for (int i = 0; i < 11; i++) {
                upper[i] = lower[i] + 40;
            }
        }

        Data copy() {
            Data d = new Data();
            d.settings = settings.clone();
            d.lower = lower.clone();
            d.upper = upper.clone();
            d.n = n;
            d.c = c;
            d.q = q;
            d.lo = lo;
            d.hi = hi;
            d.hq = hq;
            d.throughput = throughput;
            d.counted = counted;
            d.time = time;
            d.rest = rest;
            d.full = full;
            d.conflicts = conflicts;
            d.learnings = learnings;
            d.voltageBefore = voltageBefore;
            d.emptyBefore = emptyBefore;
            d.latest = latest;
            d.log = new ArrayList<>(log);
            return d;
        }
    }

    private Data d = new Data();
    private final Deque<Data> saved = new ArrayDeque<>();
    private final StringBuilder text = new StringBuilder();

    // ---- arithmetic

    /** a * b / c, rounded down; it fails rather than wrap around. */
    static long part(long a, long b, long c) {
        return Math.floorDiv(Math.multiplyExact(a, b), c);
    }

    private static long clamp(long x, long a, long b) {
        return x < a ? a : x > b ? b : x;
    }

    private static void need(boolean condition) {
        if (!condition) {
            throw new IllegalArgumentException();
        }
    }

    private static boolean in(long x, long a, long b) {
        return a <= x && x <= b;
    }

    private void save() {
        saved.addLast(d.copy());
        if (saved.size() > 4) {
            saved.removeFirst();
        }
    }

    private long range() {
        return part(d.c, d.settings[3], 100);
    }

    private int h() {
        return (int) part(d.hq, 1000, range());
    }

    private int branch(int[] branch, int s) {
        int k = s / 1000 > 9 ? 9 : s / 1000;
        int r = s - 1000 * k;
        return branch[k] + (int) part(branch[k + 1] - branch[k], r, 1000);
    }

    private int v(int s, int h) {
        int l = branch(d.lower, s);
        int u = branch(d.upper, s);
        return l + (int) part(u - l, h, 1000);
    }

    private int inverse(int voltage, int h) {
        for (int s = 0; s <= 10000; s++) {
            if (v(s, h) >= voltage) {
                return s;
            }
        }
        return 10000;
    }

    // ---- settings

    int begin(int capacity, int charge) {
        need(in(capacity, 100, 20000) && in(charge, -1, 10000));
        save();
        Data old = d;
        d = new Data();
        d.settings = old.settings;
        d.lower = old.lower;
        d.upper = old.upper;
        d.n = 3600L * capacity;
        d.c = d.n;
        d.q = d.n / 2;
        d.lo = 0;
        d.hi = d.n;
        if (charge >= 0) {
            d.q = part(d.n, charge, 10000);
            d.lo = d.q;
            d.hi = d.q;
        }
        return old.log.size();
    }

    int set(int what, int value) {
        need(in(what, 0, 11));
        need(in(value, LEAST[what], MOST[what]));
        save();
        int old = d.settings[what];
        d.settings[what] = value;
        d.hq = Math.min(d.hq, range());
        return old;
    }

    int value(int what) {
        need(in(what, 0, 11));
        return d.settings[what];
    }

    int setCurve(int point, int lower, int upper) {
        if (!in(point, 0, 10)) {
            throw new IndexOutOfBoundsException();
        }
        need(in(lower, 2000, 5000) && in(upper, lower, 5000));
        int[] l = d.lower.clone();
        int[] u = d.upper.clone();
        l[point] = lower;
        u[point] = upper;
        for (int i = 0; i < 10; i++) {
            need(l[i] < l[i + 1] && u[i] < u[i + 1]);
        }
        save();
        int old = d.lower[point];
        d.lower = l;
        d.upper = u;
        return old;
    }

    int curve(int point, boolean upper) {
        if (!in(point, 0, 10)) {
            throw new IndexOutOfBoundsException();
        }
        return (upper ? d.upper : d.lower)[point];
    }

    // ---- measurements

    private long moved(int i, long t) {
        return i > 0 ? part(i * t, d.settings[0], 1000) : i * t;
    }

    private long drift(int i, long t) {
        return part(d.settings[1], t, 1000) + part(Math.abs(moved(i, t)), d.settings[2], 1000000);
    }

    private int treat(int i, int v, int t) {
        long c = moved(i, t);
        long drift = drift(i, t);
        d.q = clamp(d.q + c, 0, d.c);
        d.lo = clamp(d.lo + c - drift, 0, d.c);
        d.hi = clamp(d.hi + c + drift, 0, d.c);
        d.hq = clamp(d.hq + c, 0, range());
        d.throughput += Math.abs(c);
        d.counted += c;
        d.time += t;
        int kinds = 0;
        int restBefore = d.rest;
        boolean quiet = Math.abs(i) <= d.settings[4] && d.voltageBefore != null
            && Math.abs(v - d.voltageBefore) <= d.settings[5];
        d.rest = quiet ? d.rest + t : 0;
        if (d.rest >= d.settings[6] && restBefore < d.settings[6]) {
            int h = h();
            addAnchor(0, inverse(v, h), inverse(v - d.settings[7], h), inverse(v + d.settings[7], h));
            kinds += 1;
        }
        int fullBefore = d.full;
        d.full = i >= 0 && i <= d.settings[9] && v >= d.settings[8] ? d.full + t : 0;
        if (d.full >= 60 && fullBefore < 60) {
            addAnchor(1, 10000, 10000, 10000);
            kinds += 2;
        }
        boolean empty = i < 0 && v <= d.settings[10];
        if (empty && !d.emptyBefore) {
            addAnchor(2, 0, 0, 0);
            kinds += 4;
        }
        d.emptyBefore = empty;
        d.voltageBefore = v;
        return kinds;
    }

    private void addAnchor(int kind, int s, int s0, int s1) {
        if (d.latest != null) {
            int p = d.latest.soc;
            int span = Math.abs(s - p);
            if (span >= d.settings[11] && d.counted != 0 && d.counted > 0 == s > p) {
                long x = part(Math.abs(d.counted), 10000, span);
                if (x >= d.n / 2 && x <= d.n * 3 / 2) {
                    d.c += part(x - d.c, 1, 4);
                    d.learnings++;
                    d.q = Math.min(d.q, d.c);
                    d.lo = Math.min(d.lo, d.c);
                    d.hi = Math.min(d.hi, d.c);
                    d.hq = Math.min(d.hq, range());
                }
            }
        }
        long a0 = part(d.c, s0, 10000);
        long a1 = part(d.c, s1, 10000);
        if (a1 < d.lo || a0 > d.hi) {
            d.conflicts++;
            d.lo = a0;
            d.hi = a1;
        } else {
            d.lo = Math.max(d.lo, a0);
            d.hi = Math.min(d.hi, a1);
        }
        d.q = clamp(d.q, d.lo, d.hi);
        d.counted = 0;
        d.latest = new Anchor(kind, s, d.time, d.c);
        d.log.add(d.latest);
        if (d.log.size() > 40) {
            d.log.remove(0);
        }
    }

    private static void needMeasurement(int current, int voltage, int duration) {
        need(in(current, -50000, 50000) && in(voltage, 0, 6000) && in(duration, 1, 600));
    }

    private static int kindsIn(int mask) {
        return (mask & 1) + (mask >> 1 & 1) + (mask >> 2 & 1);
    }

    int measure(int current, int voltage, int duration) {
        needMeasurement(current, voltage, duration);
        save();
        return treat(current, voltage, duration);
    }

    int repeat(int current, int voltage, int duration, int count) {
        needMeasurement(current, voltage, duration);
        need(in(count, 0, 500));
        save();
        int found = 0;
        for (int i = 0; i < count; i++) {
            found += kindsIn(treat(current, voltage, duration));
        }
        return found;
    }

    private int treatModel(int current, int duration, int resistance) {
        long voltage = v(soc(0), h()) + part(current, resistance, 1000);
        return treat(current, (int) clamp(voltage, 0, 6000), duration);
    }

    int simulate(int current, int duration, int resistance, int count) {
        needMeasurement(current, 0, duration);
        need(in(resistance, 0, 1000) && in(count, 0, 500));
        save();
        int found = 0;
        for (int i = 0; i < count; i++) {
            found += kindsIn(treatModel(current, duration, resistance));
        }
        return found;
    }

    // ---- what there is

    long charge(int what) {
        need(in(what, 0, 6));
        return new long[] {d.q, d.lo, d.hi, d.c, d.n, d.hq, d.counted}[what];
    }

    int soc(int what) {
        need(in(what, 0, 2));
        return (int) part(charge(what), 10000, d.c);
    }

    int status(int what) {
        need(in(what, 0, 5));
        return new int[] {d.rest, d.full, h(), d.conflicts, d.learnings, d.time}[what];
    }

    long throughput() {
        return d.throughput;
    }

    double cycles() {
        return (double) d.throughput / (double) (2 * d.n);
    }

    int healthBits() {
        return Float.floatToIntBits((float) d.c / (float) d.n);
    }

    int openVoltage(int soc, int hysteresis) {
        need(in(soc, 0, 10000) && in(hysteresis, 0, 1000));
        return v(soc, hysteresis);
    }

    int invert(int voltage, int hysteresis) {
        need(in(voltage, 0, 6000) && in(hysteresis, 0, 1000));
        return inverse(voltage, hysteresis);
    }

    int anchors() {
        return d.log.size();
    }

    int anchor(int anchor, int what) {
        if (!in(anchor, 0, d.log.size() - 1)) {
            throw new IndexOutOfBoundsException();
        }
        need(in(what, 0, 3));
        Anchor a = d.log.get(anchor);
        return new int[] {a.kind, a.soc, a.time, (int) a.capacity}[what];
    }

    // ---- predictions

    private long bound(int current, long t, boolean high) {
        long c = moved(current, t);
        return high ? clamp(d.hi + c + drift(current, t), 0, d.c) : clamp(d.lo + c - drift(current, t), 0, d.c);
    }

    long boundAfter(int current, int seconds, boolean high) {
        need(in(current, -50000, 50000) && in(seconds, 0, 1000000));
        return bound(current, seconds, high);
    }

    int reaches(int current) {
        need(in(current, -50000, 50000) && current != 0);
        for (int t = 0; t <= 1000000; t++) {
            if (current < 0 ? bound(current, t, false) == 0 : bound(current, t, true) == d.c) {
                return t;
            }
        }
        return -1;
    }

    int lasts(int current, int reserve) {
        need(in(current, -50000, -1) && in(reserve, 0, 10000));
        long kept = part(d.c, reserve, 10000);
        if (d.lo < kept) {
            return -1;
        }
        int t = 0;
        while (t < 1000000 && bound(current, t + 1, false) >= kept) {
            t++;
        }
        return t;
    }

    int wouldAnchor(int current, int duration, int resistance, int count) {
        needMeasurement(current, 0, duration);
        need(in(resistance, 0, 1000) && in(count, 0, 500));
        Data kept = d;
        d = d.copy();
        int kinds = 0;
        for (int i = 0; i < count; i++) {
            kinds |= treatModel(current, duration, resistance);
        }
        d = kept;
        return kinds;
    }

    // ---- text

    int append(int value) {
        need(in(value, 0, 127));
        if (text.length() >= 120) {
            throw new IllegalStateException();
        }
        text.append((char) value);
        return text.length();
    }

    int clearText() {
        int length = text.length();
        text.setLength(0);
        return length;
    }

    /** Whether a text is the beginning of one that is right; the position of an error is found by trying. */
    private static boolean canBegin(String t) {
        String number = "-?[0-9]{1,5}";
        String whole = "(" + number + "," + number + "," + number + ";)*";
        String open = "-?[0-9]{0,5}";
        return t.matches(whole + "(" + open + "|" + number + "," + open + "|" + number + "," + number + "," + open + ")");
    }

    int replay() {
        String t = text.toString();
        for (int i = 1; i <= t.length(); i++) {
            if (!canBegin(t.substring(0, i))) {
                return -10 - (i - 1);
            }
        }
        if (!t.isEmpty() && !t.endsWith(";")) {
            return -10 - t.length();
        }
        String[] parts = t.isEmpty() ? new String[0] : t.split(";");
        int[][] numbers = new int[parts.length][3];
        for (int i = 0; i < parts.length; i++) {
            String[] fields = parts[i].split(",");
            for (int j = 0; j < 3; j++) {
                numbers[i][j] = Integer.parseInt(fields[j]);
            }
            int[] m = numbers[i];
            if (!(in(m[0], -50000, 50000) && in(m[1], 0, 6000) && in(m[2], 1, 600))) {
                return -1000 - i;
            }
        }
        save();
        for (int[] m : numbers) {
            treat(m[0], m[1], m[2]);
        }
        return numbers.length;
    }

    // ---- state

    int undo() {
        if (saved.isEmpty()) {
            throw new IllegalStateException();
        }
        d = saved.removeLast();
        return saved.size();
    }

    long digest() {
        long h = 31L * 2999 + text.length();
        for (int x : d.settings) {
            h = 31 * h + x;
        }
        for (int x : d.lower) {
            h = 31 * h + x;
        }
        for (int x : d.upper) {
            h = 31 * h + x;
        }
        for (int i = 0; i <= 6; i++) {
            h = 31 * h + charge(i);
        }
        for (int i = 0; i <= 5; i++) {
            h = 31 * h + status(i);
        }
        h = 31 * h + d.throughput;
        h = 31 * h + d.log.size();
        for (Anchor a : d.log) {
            h = 31 * (31 * (31 * (31 * h + a.kind) + a.soc) + a.time) + a.capacity;
        }
        return 31 * h + saved.size();
    }
}
