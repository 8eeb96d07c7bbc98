/** An estimator of the state of charge of a battery; ../shared/DOC.md says what each call promises. */
public final class ChargeEstimator {
    public static final int NONE = -1;

    private static final int WHOLE_SOC = 10000;
    private static final int MOST_CURRENT = 50000;
    private static final int MOST_VOLTAGE = 6000;
    private static final int MOST_DURATION = 600;
    private static final int MOST_RESISTANCE = 1000;
    private static final int MOST_COUNT = 500;
    private static final int MOST_HYSTERESIS = 1000;
    private static final int MOST_SECONDS = 1000000;

    private static final int LEAST_CAPACITY = 100;
    private static final int MOST_CAPACITY = 20000;
    private static final int INITIAL_CAPACITY = 2000;
    private static final long SECONDS_PER_HOUR = 3600;

    // The settings, by their numbers in the document.
    private static final int EFFICIENCY = 0;
    private static final int OFFSET = 1;
    private static final int GAIN_ERROR = 2;
    private static final int WIDTH = 3;
    private static final int REST_CURRENT = 4;
    private static final int REST_VOLTAGE = 5;
    private static final int REST_TIME = 6;
    private static final int VOLTAGE_ERROR = 7;
    private static final int FULL_VOLTAGE = 8;
    private static final int TAPER_CURRENT = 9;
    private static final int EMPTY_VOLTAGE = 10;
    private static final int LEARNING_SPAN = 11;
    private static final int SETTINGS = 12;

    private static final int[] LEAST_SETTING = {900, 0, 0, 1, 0, 0, 1, 0, 2000, 0, 1000, 500};
    private static final int[] MOST_SETTING = {1000, 10000, 20000, 50, 1000, 100, 10000, 50, 5000, 10000, 4000, 10000};
    private static final int[] INITIAL_SETTING = {995, 500, 5000, 10, 20, 2, 1800, 5, 4150, 100, 2900, 4000};

    private static final int REST = 0;
    private static final int FULL = 1;
    private static final int EMPTY = 2;
    private static final int FULL_TIME = 60;

    private final Battery battery = new Battery();
    /** Where wouldAnchor() tries things out; it is kept so that no call makes new objects. */
    private final Battery trial = new Battery();
    private final History history = new History();
    private final MeasurementText text = new MeasurementText();

    public ChargeEstimator() {
    }

    // ---- settings

    public int begin(int capacity, int charge) throws IllegalArgumentException {
        requireWithin(capacity, LEAST_CAPACITY, MOST_CAPACITY);
        requireWithin(charge, NONE, WHOLE_SOC);
        history.save(battery);
        int removed = battery.log.size();
        battery.startAnew(SECONDS_PER_HOUR * capacity);
        if (charge != NONE) {
            battery.startAtSoc(charge);
        }
        return removed;
    }

    public int set(int what, int value) throws IllegalArgumentException {
        requireWithin(what, 0, SETTINGS - 1);
        requireWithin(value, LEAST_SETTING[what], MOST_SETTING[what]);
        history.save(battery);
        return battery.changeSetting(what, value);
    }

    public int value(int what) throws IllegalArgumentException {
        requireWithin(what, 0, SETTINGS - 1);
        return battery.settings[what];
    }

    public int setCurve(int point, int lower, int upper) throws IndexOutOfBoundsException, IllegalArgumentException {
        requirePoint(point);
        requireWithin(lower, Curves.LEAST_VOLTAGE, Curves.MOST_VOLTAGE);
        requireWithin(upper, lower, Curves.MOST_VOLTAGE);
        if (!battery.curves.wouldAscend(point, lower, upper)) {
            throw new IllegalArgumentException("a branch would not be strictly ascending");
        }
        history.save(battery);
        return battery.curves.changePoint(point, lower, upper);
    }

    public int curve(int point, boolean upper) throws IndexOutOfBoundsException {
        requirePoint(point);
        return upper ? battery.curves.upper[point] : battery.curves.lower[point];
    }

    // ---- measurements

    public int measure(int current, int voltage, int duration) throws IllegalArgumentException {
        requireMeasurement(current, voltage, duration);
        history.save(battery);
        return battery.treat(current, voltage, duration);
    }

    public int repeat(int current, int voltage, int duration, int count) throws IllegalArgumentException {
        requireMeasurement(current, voltage, duration);
        requireWithin(count, 0, MOST_COUNT);
        history.save(battery);
        int found = 0;
        for (int i = 0; i < count; i++) {
            found += Integer.bitCount(battery.treat(current, voltage, duration));
        }
        return found;
    }

    public int simulate(int current, int duration, int resistance, int count) throws IllegalArgumentException {
        requireModel(current, duration, resistance, count);
        history.save(battery);
        int found = 0;
        for (int i = 0; i < count; i++) {
            int voltage = battery.modelVoltage(current, resistance);
            found += Integer.bitCount(battery.treat(current, voltage, duration));
        }
        return found;
    }

    // ---- what there is

    public long charge(int what) throws IllegalArgumentException {
        requireWithin(what, 0, Battery.CHARGES - 1);
        return battery.chargeOf(what);
    }

    public int soc(int what) throws IllegalArgumentException {
        requireWithin(what, 0, 2);
        return battery.socOf(battery.chargeOf(what));
    }

    public int status(int what) throws IllegalArgumentException {
        requireWithin(what, 0, Battery.STATUSES - 1);
        return battery.statusOf(what);
    }

    public long throughput() {
        return battery.throughput;
    }

    public double cycles() {
        long full = 2 * battery.nominal;
        return full > 0 ? (double) battery.throughput / (double) full : 0.0;
    }

    public int healthBits() {
        return battery.nominal > 0 ? bitsOf((float) battery.capacity / (float) battery.nominal) : 0;
    }

    // ---- curves and inversion

    public int openVoltage(int soc, int hysteresis) throws IllegalArgumentException {
        requireWithin(soc, 0, WHOLE_SOC);
        requireWithin(hysteresis, 0, MOST_HYSTERESIS);
        return battery.curves.voltageAt(soc, hysteresis);
    }

    public int invert(int voltage, int hysteresis) throws IllegalArgumentException {
        requireWithin(voltage, 0, MOST_VOLTAGE);
        requireWithin(hysteresis, 0, MOST_HYSTERESIS);
        return battery.curves.socAt(voltage, hysteresis);
    }

    // ---- log

    public int anchors() {
        return battery.log.size();
    }

    public int anchor(int anchor, int what) throws IndexOutOfBoundsException, IllegalArgumentException {
        if (anchor < 0 || anchor >= battery.log.size()) {
            throw new IndexOutOfBoundsException("there is no such anchor");
        }
        requireWithin(what, 0, AnchorLog.PARTS - 1);
        return battery.log.part(anchor, what);
    }

    // ---- predictions

    public long boundAfter(int current, int seconds, boolean high) throws IllegalArgumentException {
        requireWithin(current, -MOST_CURRENT, MOST_CURRENT);
        requireWithin(seconds, 0, MOST_SECONDS);
        return high ? battery.highAfter(current, seconds) : battery.lowAfter(current, seconds);
    }

    public int reaches(int current) throws IllegalArgumentException {
        requireWithin(current, -MOST_CURRENT, MOST_CURRENT);
        if (current == 0) {
            throw new IllegalArgumentException("the current is 0");
        }
        int time = current < 0 ? battery.whenLowAtMost(current, 0) : battery.whenHighWhole(current);
        return time > MOST_SECONDS ? NONE : time;
    }

    public int lasts(int current, int reserve) throws IllegalArgumentException {
        requireWithin(current, -MOST_CURRENT, -1);
        requireWithin(reserve, 0, WHOLE_SOC);
        long kept = battery.chargeAt(reserve);
        if (battery.low < kept) {
            return NONE;
        }
        return battery.whenLowAtMost(current, kept - 1) - 1;
    }

    public int wouldAnchor(int current, int duration, int resistance, int count) throws IllegalArgumentException {
        requireModel(current, duration, resistance, count);
        trial.copyFrom(battery);
        int kinds = 0;
        for (int i = 0; i < count; i++) {
            kinds |= trial.treat(current, trial.modelVoltage(current, resistance), duration);
        }
        return kinds;
    }

    // ---- text

    public int append(int value) throws IllegalArgumentException, IllegalStateException {
        requireWithin(value, 0, 127);
        if (text.isFull()) {
            throw new IllegalStateException("the text is full");
        }
        text.add(value);
        return text.size();
    }

    public int clearText() {
        int length = text.size();
        text.empty();
        return length;
    }

    public int replay() {
        int error = text.read();
        if (error != NONE) {
            return -10 - error;
        }
        int count = text.measurements();
        for (int i = 0; i < count; i++) {
            if (!isMeasurement(text.number(i, 0), text.number(i, 1), text.number(i, 2))) {
                return -1000 - i;
            }
        }
        history.save(battery);
        for (int i = 0; i < count; i++) {
            battery.treat(text.number(i, 0), text.number(i, 1), text.number(i, 2));
        }
        return count;
    }

    // ---- state

    public int undo() throws IllegalStateException {
        if (history.size() == 0) {
            throw new IllegalStateException("there is no saved state");
        }
        history.restore(battery);
        return history.size();
    }

    public long digest() {
        long hash = mix(2999, text.size());
        hash = battery.mixInto(hash);
        hash = battery.log.mixInto(hash);
        return mix(hash, history.size());
    }

    // ---- tests of arguments

    private static boolean isWithin(int value, int least, int most) {
        return value >= least && value <= most;
    }

    private static boolean isMeasurement(int current, int voltage, int duration) {
        return isWithin(current, -MOST_CURRENT, MOST_CURRENT)
            && isWithin(voltage, 0, MOST_VOLTAGE)
            && isWithin(duration, 1, MOST_DURATION);
    }

    private static void requireWithin(int value, int least, int most) {
        if (!isWithin(value, least, most)) {
            throw new IllegalArgumentException("an argument is out of range");
        }
    }

    private static void requirePoint(int point) {
        if (point < 0 || point >= Curves.POINTS) {
            throw new IndexOutOfBoundsException("there is no such point");
        }
    }

    private static void requireMeasurement(int current, int voltage, int duration) {
        if (!isMeasurement(current, voltage, duration)) {
            throw new IllegalArgumentException("a measurement is out of range");
        }
    }

    private static void requireModel(int current, int duration, int resistance, int count) {
        requireMeasurement(current, 0, duration);
        requireWithin(resistance, 0, MOST_RESISTANCE);
        requireWithin(count, 0, MOST_COUNT);
    }

    // ---- numbers

    private static long clamp(long value, long least, long most) {
        return Math.min(Math.max(value, least), most);
    }

    private static long mix(long hash, long value) {
        return 31 * hash + value;
    }

    /**
     * The bits of a float above 0 and below 2 (a health is never outside 0.5 to 1.5), found by
     * doubling it up to 1, which loses nothing: LANGUAGE.md leaves no library call for it.
     */
    private static int bitsOf(float number) {
        float scaled = number;
        int exponent = 127;
        for (int i = 0; i < 126 && scaled < 1.0f; i++) {
            scaled = scaled * 2.0f;
            exponent--;
        }
        return (exponent << 23) + (int) ((scaled - 1.0f) * 8388608.0f);
    }

    /** All that undo() brings back: the charges, the counters, the settings, the curves, and the log. */
    private static final class Battery {
        private static final int CHARGES = 7;
        private static final int STATUSES = 6;
        /** More halvings than a search among the seconds up to MOST_SECONDS needs. */
        private static final int HALVINGS = 32;

        private final int[] settings = new int[SETTINGS];
        private final Curves curves = new Curves();
        private final AnchorLog log = new AnchorLog();
        private long nominal;
        private long capacity;
        private long estimate;
        private long low;
        private long high;
        private long hysteresis;
        private long throughput;
        private long counted;
        private int time;
        private int restCounter;
        private int fullCounter;
        private int conflicts;
        private int learnings;
        private int lastVoltage;
        private boolean wasEmpty;

        Battery() {
            System.arraycopy(INITIAL_SETTING, 0, settings, 0, SETTINGS);
            startAnew(SECONDS_PER_HOUR * INITIAL_CAPACITY);
        }

        void startAnew(long newNominal) {
            nominal = newNominal;
            capacity = newNominal;
            estimate = newNominal / 2;
            low = 0;
            high = newNominal;
            hysteresis = 0;
            throughput = 0;
            counted = 0;
            time = 0;
            restCounter = 0;
            fullCounter = 0;
            conflicts = 0;
            learnings = 0;
            lastVoltage = NONE;
            wasEmpty = false;
            log.empty();
        }

        void startAtSoc(int soc) {
            estimate = chargeAt(soc);
            low = estimate;
            high = estimate;
        }

        void copyFrom(Battery other) {
            System.arraycopy(other.settings, 0, settings, 0, SETTINGS);
            curves.copyFrom(other.curves);
            log.copyFrom(other.log);
            nominal = other.nominal;
            capacity = other.capacity;
            estimate = other.estimate;
            low = other.low;
            high = other.high;
            hysteresis = other.hysteresis;
            throughput = other.throughput;
            counted = other.counted;
            time = other.time;
            restCounter = other.restCounter;
            fullCounter = other.fullCounter;
            conflicts = other.conflicts;
            learnings = other.learnings;
            lastVoltage = other.lastVoltage;
            wasEmpty = other.wasEmpty;
        }

        int changeSetting(int what, int newValue) {
            int previous = settings[what];
            settings[what] = newValue;
            hysteresis = Math.min(hysteresis, hysteresisRange());
            return previous;
        }

        // ---- what there is

        long chargeOf(int what) {
            switch (what) {
                case 0: return estimate;
                case 1: return low;
                case 2: return high;
                case 3: return capacity;
                case 4: return nominal;
                case 5: return hysteresis;
                default: return counted;
            }
        }

        int statusOf(int what) {
            switch (what) {
                case 0: return restCounter;
                case 1: return fullCounter;
                case 2: return hysteresisState();
                case 3: return conflicts;
                case 4: return learnings;
                default: return time;
            }
        }

        long chargeAt(int soc) {
            return capacity * soc / WHOLE_SOC;
        }

        int socOf(long amount) {
            return capacity > 0 ? (int) (amount * WHOLE_SOC / capacity) : 0;
        }

        private long hysteresisRange() {
            return capacity * settings[WIDTH] / 100;
        }

        private int hysteresisState() {
            long range = hysteresisRange();
            return range > 0 ? (int) (hysteresis * MOST_HYSTERESIS / range) : 0;
        }

        int modelVoltage(int current, int resistance) {
            int open = curves.voltageAt(socOf(estimate), hysteresisState());
            return (int) clamp(open + Math.floorDiv(current * resistance, 1000), 0, MOST_VOLTAGE);
        }

        long mixInto(long start) {
            long hash = start;
            for (int i = 0; i < SETTINGS; i++) {
                hash = mix(hash, settings[i]);
            }
            hash = curves.mixInto(hash);
            for (int i = 0; i < CHARGES; i++) {
                hash = mix(hash, chargeOf(i));
            }
            for (int i = 0; i < STATUSES; i++) {
                hash = mix(hash, statusOf(i));
            }
            return mix(hash, throughput);
        }

        // ---- the steps of a measurement

        /** Treats a measurement; answers 1 for a rest anchor, plus 2 for a full one, plus 4 for an empty one. */
        int treat(int current, int voltage, int duration) {
            countCharge(current, duration);
            int kinds = 0;
            if (restIsReached(current, voltage, duration)) {
                int error = settings[VOLTAGE_ERROR];
                int state = hysteresisState();
                addAnchor(REST, curves.socAt(voltage, state),
                    curves.socAt(voltage - error, state), curves.socAt(voltage + error, state));
                kinds += 1;
            }
            if (fullIsReached(current, voltage, duration)) {
                addAnchor(FULL, WHOLE_SOC, WHOLE_SOC, WHOLE_SOC);
                kinds += 2;
            }
            if (emptyIsReached(current, voltage)) {
                addAnchor(EMPTY, 0, 0, 0);
                kinds += 4;
            }
            lastVoltage = voltage;
            return kinds;
        }

        private long movedCharge(int current, int seconds) {
            long product = (long) current * seconds;
            return current > 0 ? product * settings[EFFICIENCY] / 1000 : product;
        }

        private long driftOf(long moved, int seconds) {
            return (long) settings[OFFSET] * seconds / 1000 + Math.abs(moved) * settings[GAIN_ERROR] / 1000000;
        }

        private void countCharge(int current, int duration) {
            long moved = movedCharge(current, duration);
            estimate = clamp(estimate + moved, 0, capacity);
            low = lowAfter(current, duration);
            high = highAfter(current, duration);
            hysteresis = clamp(hysteresis + moved, 0, hysteresisRange());
            throughput += Math.abs(moved);
            counted += moved;
            time += duration;
        }

        private boolean restIsReached(int current, int voltage, int duration) {
            boolean rests = Math.abs(current) <= settings[REST_CURRENT]
                && lastVoltage != NONE
                && Math.abs(voltage - lastVoltage) <= settings[REST_VOLTAGE];
            int before = restCounter;
            restCounter = rests ? before + duration : 0;
            return restCounter >= settings[REST_TIME] && before < settings[REST_TIME];
        }

        private boolean fullIsReached(int current, int voltage, int duration) {
            boolean tapers = current >= 0 && current <= settings[TAPER_CURRENT] && voltage >= settings[FULL_VOLTAGE];
            int before = fullCounter;
            fullCounter = tapers ? before + duration : 0;
            return fullCounter >= FULL_TIME && before < FULL_TIME;
        }

        private boolean emptyIsReached(int current, int voltage) {
            boolean before = wasEmpty;
            wasEmpty = current < 0 && voltage <= settings[EMPTY_VOLTAGE];
            return wasEmpty && !before;
        }

        private void addAnchor(int kind, int soc, int lowSoc, int highSoc) {
            learnCapacity(soc);
            long least = chargeAt(lowSoc);
            long most = chargeAt(highSoc);
            if (most < low || least > high) {
                conflicts++;
                low = least;
                high = most;
            } else {
                low = Math.max(low, least);
                high = Math.min(high, most);
            }
            estimate = clamp(estimate, low, high);
            counted = 0;
            log.add(kind, soc, time, (int) capacity);
        }

        private void learnCapacity(int soc) {
            if (log.size() == 0) {
                return;
            }
            int previous = log.latestSoc();
            int span = Math.abs(soc - previous);
            boolean agrees = counted != 0 && (counted > 0) == (soc > previous);
            if (!agrees || span < settings[LEARNING_SPAN] || span <= 0) {
                return;
            }
            long seen = Math.abs(counted) * WHOLE_SOC / span;
            if (seen < nominal / 2 || seen > nominal * 3 / 2) {
                return;
            }
            capacity += Math.floorDiv(seen - capacity, 4L);
            learnings++;
            estimate = Math.min(estimate, capacity);
            low = Math.min(low, capacity);
            high = Math.min(high, capacity);
            hysteresis = Math.min(hysteresis, hysteresisRange());
        }

        // ---- predictions

        long lowAfter(int current, int seconds) {
            long moved = movedCharge(current, seconds);
            return clamp(low + moved - driftOf(moved, seconds), 0, capacity);
        }

        long highAfter(int current, int seconds) {
            long moved = movedCharge(current, seconds);
            return clamp(high + moved + driftOf(moved, seconds), 0, capacity);
        }

        /** The first second with lo at most a limit, for a current below 0; MOST_SECONDS + 1 if there is none. */
        int whenLowAtMost(int current, long limit) {
            int first = 0;
            int last = MOST_SECONDS + 1;
            for (int i = 0; i < HALVINGS && first < last; i++) {
                int middle = (first + last) / 2;
                if (lowAfter(current, middle) <= limit) {
                    last = middle;
                } else {
                    first = middle + 1;
                }
            }
            return first;
        }

        /** The first second with hi at the capacity, for a current above 0; MOST_SECONDS + 1 if there is none. */
        int whenHighWhole(int current) {
            int first = 0;
            int last = MOST_SECONDS + 1;
            for (int i = 0; i < HALVINGS && first < last; i++) {
                int middle = (first + last) / 2;
                if (highAfter(current, middle) >= capacity) {
                    last = middle;
                } else {
                    first = middle + 1;
                }
            }
            return first;
        }
    }

    /** The two branches of the open-circuit voltage. */
    private static final class Curves {
        private static final int POINTS = 11;
        private static final int LEAST_VOLTAGE = 2000;
        private static final int MOST_VOLTAGE = 5000;
        private static final int STEP = 1000;
        /** More halvings than a search among the states of charge needs. */
        private static final int HALVINGS = 16;
        private static final int[] INITIAL_LOWER = {3000, 3300, 3450, 3520, 3560, 3600, 3650, 3730, 3830, 3950, 4100};
        private static final int INITIAL_GAP = 40;

        private final int[] lower = new int[POINTS];
        private final int[] upper = new int[POINTS];

        Curves() {
            for (int i = 0; i < POINTS; i++) {
                lower[i] = INITIAL_LOWER[i];
                upper[i] = INITIAL_LOWER[i] + INITIAL_GAP;
            }
        }

        void copyFrom(Curves other) {
            System.arraycopy(other.lower, 0, lower, 0, POINTS);
            System.arraycopy(other.upper, 0, upper, 0, POINTS);
        }

        boolean wouldAscend(int point, int newLower, int newUpper) {
            boolean above = point <= 0 || newLower > lower[point - 1] && newUpper > upper[point - 1];
            boolean below = point >= POINTS - 1 || newLower < lower[point + 1] && newUpper < upper[point + 1];
            return above && below;
        }

        int changePoint(int point, int newLower, int newUpper) {
            int previous = lower[point];
            lower[point] = newLower;
            upper[point] = newUpper;
            return previous;
        }

        int voltageAt(int soc, int state) {
            int least = branchAt(lower, soc);
            return least + (branchAt(upper, soc) - least) * state / MOST_HYSTERESIS;
        }

        private static int branchAt(int[] branch, int soc) {
            int k = Math.max(0, Math.min(soc / STEP, POINTS - 2));
            return branch[k] + (branch[k + 1] - branch[k]) * (soc - STEP * k) / STEP;
        }

        /** Halving finds the smallest state of charge, because both branches never fall. */
        int socAt(int voltage, int state) {
            int first = 0;
            int last = WHOLE_SOC;
            for (int i = 0; i < HALVINGS && first < last; i++) {
                int middle = (first + last) / 2;
                if (voltageAt(middle, state) >= voltage) {
                    last = middle;
                } else {
                    first = middle + 1;
                }
            }
            return first;
        }

        long mixInto(long start) {
            long hash = start;
            for (int i = 0; i < POINTS; i++) {
                hash = mix(hash, lower[i]);
            }
            for (int i = 0; i < POINTS; i++) {
                hash = mix(hash, upper[i]);
            }
            return hash;
        }
    }

    /** The latest anchors, the oldest first. */
    private static final class AnchorLog {
        private static final int LIMIT = 40;
        private static final int PARTS = 4;
        private static final int SOC = 1;

        /** The parts of the first anchor, then those of the second, and so on. */
        private final int[] rows = new int[LIMIT * PARTS];
        private int size;

        int size() {
            return size;
        }

        void empty() {
            size = 0;
        }

        int part(int anchor, int what) {
            int at = anchor * PARTS + what;
            return at >= 0 && at < rows.length ? rows[at] : NONE;
        }

        int latestSoc() {
            return part(size - 1, SOC);
        }

        void add(int kind, int soc, int time, int capacity) {
            if (size >= LIMIT) {
                System.arraycopy(rows, PARTS, rows, 0, rows.length - PARTS);
                size = LIMIT - 1;
            }
            int at = size * PARTS;
            rows[at] = kind;
            rows[at + 1] = soc;
            rows[at + 2] = time;
            rows[at + 3] = capacity;
            size++;
        }

        void copyFrom(AnchorLog other) {
            System.arraycopy(other.rows, 0, rows, 0, rows.length);
            size = other.size;
        }

        long mixInto(long start) {
            long hash = mix(start, size);
            int end = Math.min(size * PARTS, rows.length);
            for (int i = 0; i < end; i++) {
                hash = mix(hash, rows[i]);
            }
            return hash;
        }
    }

    /** The saved states, the oldest first. */
    private static final class History {
        private static final int LIMIT = 4;

        /** All states are made at once and then written over, so that no call makes new objects. */
        private final Battery[] states = new Battery[LIMIT];
        private int size;

        History() {
            for (int i = 0; i < LIMIT; i++) {
                states[i] = new Battery();
            }
        }

        int size() {
            return size;
        }

        void save(Battery battery) {
            if (size >= LIMIT) {
                dropOldest();
            }
            Battery state = states[size];
            if (state != null) {
                state.copyFrom(battery);
                size++;
            }
        }

        private void dropOldest() {
            Battery oldest = states[0];
            for (int i = 1; i < LIMIT; i++) {
                states[i - 1] = states[i];
            }
            states[LIMIT - 1] = oldest;
            size = LIMIT - 1;
        }

        void restore(Battery battery) {
            if (size <= 0 || size > LIMIT) {
                return;
            }
            size--;
            Battery state = states[size];
            if (state != null) {
                battery.copyFrom(state);
            }
        }
    }

    /** The measurement text, and the numbers that the latest read() found in it. */
    private static final class MeasurementText {
        private static final int LIMIT = 120;
        private static final int MOST_DIGITS = 5;
        private static final int FIELDS = 3;

        private final byte[] bytes = new byte[LIMIT];
        private int size;

        /** A number takes at least a digit and the sign behind it. */
        private final int[] numbers = new int[LIMIT / 2];
        private int complete;
        private int number;
        private int digits;
        private boolean negative;

        int size() {
            return size;
        }

        boolean isFull() {
            return size >= LIMIT;
        }

        void add(int value) {
            if (size < LIMIT) {
                bytes[size] = (byte) value;
                size++;
            }
        }

        void empty() {
            size = 0;
        }

        int measurements() {
            return complete / FIELDS;
        }

        int number(int measurement, int field) {
            int at = measurement * FIELDS + field;
            return at >= 0 && at < numbers.length ? numbers[at] : 0;
        }

        /** Reads the whole text; answers the syntax error position, NONE if there is no error. */
        int read() {
            complete = 0;
            beginNumber();
            for (int i = 0; i < size && i < LIMIT; i++) {
                if (!takes(bytes[i])) {
                    return i;
                }
            }
            boolean ended = complete % FIELDS == 0 && digits == 0 && !negative;
            return ended ? NONE : size;
        }

        private void beginNumber() {
            number = 0;
            digits = 0;
            negative = false;
        }

        /** Takes the next byte, if it can stand where it stands. */
        private boolean takes(int sign) {
            if (sign == '-') {
                boolean first = digits == 0 && !negative;
                negative = true;
                return first;
            }
            if (sign >= '0' && sign <= '9') {
                number = 10 * number + (sign - '0');
                digits++;
                return digits <= MOST_DIGITS;
            }
            int separator = complete % FIELDS == FIELDS - 1 ? ';' : ',';
            if (sign != separator || digits == 0 || complete >= numbers.length) {
                return false;
            }
            numbers[complete] = negative ? -number : number;
            complete++;
            beginNumber();
            return true;
        }
    }
}
