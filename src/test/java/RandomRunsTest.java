import java.lang.reflect.InvocationTargetException;
import java.lang.reflect.Method;
import java.util.HashMap;
import java.util.Map;
import java.util.TreeMap;

/** Random runs of 512 calls; each answer is compared with that of NaiveEstimator, and so is the digest. */
final class RandomRunsTest {
    private static final int RUNS = 500;
    private static final int CALLS = 512;
    private static final int[] LEAST = {900, 0, 0, 1, 0, 0, 1, 0, 2000, 0, 1000, 500};
    private static final int[] MOST = {1000, 10000, 20000, 50, 1000, 100, 10000, 50, 5000, 10000, 4000, 10000};

    private static final Map<String, Method> PROGRAM = methods(ChargeEstimator.class);
    private static final Map<String, Method> MODEL = methods(NaiveEstimator.class);
    /** How often what has come up, to see that the runs come everywhere. */
    private static final Map<String, Integer> SEEN = new TreeMap<>();

    private static long seed;
    private static ChargeEstimator program;
    private static NaiveEstimator model;
    private static int slowCalls;

    public static void main(String[] args) {
        for (int run = 0; run < RUNS; run++) {
            seed = 1000003L * run + 17;
            program = new ChargeEstimator();
            model = new NaiveEstimator();
            slowCalls = 0;
            waiting = "";
            if (!runs(run)) {
                break;
            }
        }
        String[] wanted = {"rest", "full", "empty", "conflict", "learning", "long log", "undone", "replayed",
            "syntax error", "out of range", "IllegalArgumentException", "IndexOutOfBoundsException",
            "IllegalStateException", "would anchor"};
        for (String what : wanted) {
            Check.dueThat("the runs see enough of: " + what + " " + SEEN, SEEN.getOrDefault(what, 0) >= 50);
        }
        Check.end();
    }

    private static boolean runs(int run) {
        StringBuilder story = new StringBuilder();
        for (int i = 0; i < CALLS; i++) {
            Object[] call = next();
            story.append("\n  ").append(java.util.Arrays.toString(call));
            Object[] arguments = java.util.Arrays.copyOfRange(call, 1, call.length);
            String got = answer(PROGRAM.get((String) call[0]), program, arguments);
            String want = answer(MODEL.get((String) call[0]), model, arguments);
            note((String) call[0], want);
            if (!got.equals(want) || program.digest() != model.digest()) {
                Check.fail("run " + run + ", call " + i + ": " + got + ", due is " + want + ", digests "
                    + program.digest() + ", " + model.digest() + story);
                return false;
            }
        }
        return true;
    }

    private static Map<String, Method> methods(Class<?> owner) {
        Map<String, Method> found = new HashMap<>();
        for (Method m : owner.getDeclaredMethods()) {
            m.setAccessible(true);
            found.put(m.getName(), m);
        }
        return found;
    }

    private static String answer(Method method, Object object, Object[] arguments) {
        try {
            return String.valueOf(method.invoke(object, arguments));
        } catch (InvocationTargetException e) {
            return "throws " + e.getCause().getClass().getSimpleName();
        } catch (IllegalAccessException e) {
            return "no access";
        }
    }

    private static void note(String name, String answer) {
        if (answer.startsWith("throws ")) {
            see(answer.substring(7));
            return;
        }
        long number = name.equals("cycles") ? 0 : Long.parseLong(answer);
        if (name.equals("measure")) {
            seeIf("rest", (number & 1) != 0);
            seeIf("full", (number & 2) != 0);
            seeIf("empty", (number & 4) != 0);
        }
        seeIf("conflict", name.equals("status") && model.status(3) > 0);
        seeIf("learning", name.equals("status") && model.status(4) > 0);
        seeIf("long log", model.anchors() == 40);
        seeIf("undone", name.equals("undo"));
        seeIf("would anchor", name.equals("wouldAnchor") && number != 0);
        seeIf("replayed", name.equals("replay") && number > 0);
        seeIf("syntax error", name.equals("replay") && number < 0 && number > -1000);
        seeIf("out of range", name.equals("replay") && number <= -1000);
    }

    private static void seeIf(String what, boolean condition) {
        if (condition) {
            see(what);
        }
    }

    private static void see(String what) {
        SEEN.merge(what, 1, Integer::sum);
    }

    // ---- the calls

    private static int random(int least, int most) {
        seed = seed * 6364136223846793005L + 1442695040888963407L;
        return least + (int) ((seed >>> 33) % (most - least + 1L));
    }

    private static boolean seldom() {
        return random(0, 39) == 0;
    }

    /** A number of the range, often an end of it, and seldom one outside. */
    private static int any(int least, int most) {
        int way = random(0, 99);
        if (way < 10) {
            return least;
        }
        if (way < 20) {
            return most;
        }
        if (way == 20) {
            return least - 1;
        }
        if (way == 21) {
            return most + 1;
        }
        if (way == 22) {
            return random(0, 1) == 0 ? Integer.MIN_VALUE : Integer.MAX_VALUE;
        }
        return random(least, most);
    }

    private static int current() {
        int way = random(0, 9);
        if (way < 3) {
            return random(-30, 30);
        }
        if (way < 8) {
            return random(-3000, 3000);
        }
        return any(-50000, 50000);
    }

    /** Mostly what the model battery would show, so that rests, ends and learnings come up. */
    private static int voltage() {
        int way = random(0, 9);
        if (way < 6) {
            return model.openVoltage(model.soc(0), model.status(2)) + random(-3, 3);
        }
        if (way == 6) {
            return random(2880, 2910);
        }
        if (way == 7) {
            return random(4140, 4160);
        }
        return any(0, 6000);
    }

    private static int duration() {
        return seldom() ? any(1, 600) : random(1, random(0, 1) == 0 ? 60 : 600);
    }

    private static int count() {
        return seldom() ? any(0, 500) : random(0, 12);
    }

    private static Object[] next() {
        if (!waiting.isEmpty() && random(0, 1) == 0) {
            return nextText(0);
        }
        int way = random(0, 99);
        if (way < 45) {
            return nextMeasurement(way);
        }
        if (way < 58) {
            return nextSetting(way);
        }
        if (way < 72) {
            return nextText(way);
        }
        return nextQuestion(way);
    }

    private static Object[] nextMeasurement(int way) {
        if (way < 30) {
            return new Object[] {"measure", current(), voltage(), duration()};
        }
        if (way < 38) {
            return new Object[] {"repeat", current(), voltage(), duration(), count()};
        }
        return new Object[] {"simulate", current(), duration(), any(0, 1000), count()};
    }

    private static Object[] nextSetting(int way) {
        if (way < 46) {
            return new Object[] {"begin", random(0, 2) == 0 ? any(100, 20000) : random(100, 300), any(-1, 10000)};
        }
        if (way < 52) {
            int what = any(0, 11);
            int least = what >= 0 && what <= 11 ? LEAST[what] : 0;
            int most = what >= 0 && what <= 11 ? MOST[what] : 0;
            if (what == 6 && random(0, 3) != 0) {
                return new Object[] {"set", what, random(1, 200)};
            }
            if (what == 11 && random(0, 3) != 0) {
                return new Object[] {"set", what, random(500, 2000)};
            }
            return new Object[] {"set", what, any(least, most)};
        }
        if (way < 55) {
            int point = any(0, 10);
            int near = point >= 0 && point <= 10 ? model.curve(point, false) : 3000;
            int lower = seldom() ? any(2000, 5000) : near + random(-40, 40);
            return new Object[] {"setCurve", point, lower, seldom() ? any(lower, 5000) : lower + random(0, 80)};
        }
        return new Object[] {"undo"};
    }

    private static String waiting = "";

    private static Object[] nextText(int way) {
        if (way >= 70 && waiting.isEmpty()) {
            return random(0, 1) == 0 ? new Object[] {"clearText"} : new Object[] {"append", any(0, 127)};
        }
        if (waiting.isEmpty()) {
            waiting = newText();
        }
        // '!' stands for the end of the text, where it is replayed, and emptied after that.
        char sign = waiting.charAt(0);
        waiting = waiting.substring(1);
        if (sign == '!') {
            return new Object[] {"replay"};
        }
        if (sign == '?') {
            return new Object[] {"clearText"};
        }
        return new Object[] {"append", (int) sign};
    }

    private static String newText() {
        StringBuilder made = new StringBuilder();
        if (random(0, 1) == 0) {
            made.append('?');
        }
        int measurements = seldom() ? 15 : random(0, 2);
        for (int i = 0; i < measurements; i++) {
            made.append(current() % 100000).append(',').append(voltage() % 100000).append(',').append(duration() % 100000).append(';');
        }
        if (random(0, 5) == 0) {
            made.append(random(0, 1) == 0 ? "50001,0,1;" : "0,6001,0;0,0,1;");
        }
        if (random(0, 3) == 0 && made.length() > 1) {
            made.setCharAt(random(1, made.length() - 1), "0123456789,;-- 9".charAt(random(0, 15)));
        }
        if (random(0, 3) == 0 && made.length() > 1) {
            made.setLength(random(1, made.length()));
        }
        return made.append("!").append(random(0, 1) == 0 ? "!?" : "?").toString();
    }

    private static Object[] nextQuestion(int way) {
        switch (way - 72) {
            case 0: return new Object[] {"value", any(0, 11)};
            case 1: return new Object[] {"curve", any(0, 10), random(0, 1) == 0};
            case 2: case 3: return new Object[] {"charge", any(0, 6)};
            case 4: return new Object[] {"soc", any(0, 2)};
            case 5: case 6: return new Object[] {"status", any(0, 5)};
            case 7: return new Object[] {"throughput"};
            case 8: return new Object[] {"cycles"};
            case 9: return new Object[] {"healthBits"};
            case 10: return new Object[] {"openVoltage", any(0, 10000), any(0, 1000)};
            case 11: return new Object[] {"invert", random(0, 1) == 0 ? any(0, 6000) : voltage(), any(0, 1000)};
            case 12: return new Object[] {"anchors"};
            case 13: case 14: return new Object[] {"anchor", any(0, Math.max(0, model.anchors() - 1)), any(0, 3)};
            case 15: case 16: return new Object[] {"boundAfter", current(), any(0, random(0, 1) == 0 ? 1000000 : 2000), random(0, 1) == 0};
            case 17: case 18: return nextSlowQuestion();
            case 19: case 20: return new Object[] {"wouldAnchor", current(), duration(), any(0, 1000), count()};
            case 21: return new Object[] {"digest"};
            case 22: return new Object[] {"undo"};
            default: return new Object[] {"measure", random(-20, 20), voltage(), duration()};
        }
    }

    /** The model searches second by second, so only a few of these calls a run. */
    private static Object[] nextSlowQuestion() {
        slowCalls++;
        if (slowCalls > 4) {
            return new Object[] {"anchors"};
        }
        if (random(0, 1) == 0) {
            return new Object[] {"reaches", random(0, 3) == 0 ? current() : any(-50000, 50000)};
        }
        int reserve = random(0, 1) == 0 ? any(0, 10000) : random(0, model.soc(1));
        return new Object[] {"lasts", random(0, 3) == 0 ? -Math.abs(current()) : any(-50000, -1), reserve};
    }
}
