/** Compares answers with those that are due, and counts the wrong ones. */
final class Check {
    interface Call {
        Object run();
    }

    private static int wrong = 0;

    private Check() {
    }

    static void due(String what, long got, long want) {
        if (got != want) {
            fail(what + " answered " + got + ", due is " + want);
        }
    }

    static void due(String what, String got, String want) {
        if (!got.equals(want)) {
            fail(what + " answered " + got + ", due is " + want);
        }
    }

    static void dueThat(String what, boolean holds) {
        if (!holds) {
            fail(what + " does not hold");
        }
    }

    /** The call has to throw just this exception and to leave the digest and the text alone. */
    static void dueThrows(String what, Class<? extends RuntimeException> kind, ChargeEstimator x, Call call) {
        long before = x.digest();
        String got = "nothing thrown";
        try {
            call.run();
        } catch (RuntimeException e) {
            got = e.getClass().getSimpleName();
        }
        due(what, got, kind.getSimpleName());
        due(what + " changes the state; the digest", x.digest(), before);
    }

    static void dueIllegal(String what, ChargeEstimator x, Call call) {
        dueThrows(what, IllegalArgumentException.class, x, call);
    }

    static void dueIndex(String what, ChargeEstimator x, Call call) {
        dueThrows(what, IndexOutOfBoundsException.class, x, call);
    }

    static void dueState(String what, ChargeEstimator x, Call call) {
        dueThrows(what, IllegalStateException.class, x, call);
    }

    /** charge(0) to charge(6) at once. */
    static void dueCharges(String what, ChargeEstimator x, long... want) {
        for (int i = 0; i < want.length; i++) {
            due(what + ": charge(" + i + ")", x.charge(i), want[i]);
        }
    }

    /** status(0) to status(5) at once. */
    static void dueStatus(String what, ChargeEstimator x, int... want) {
        for (int i = 0; i < want.length; i++) {
            due(what + ": status(" + i + ")", x.status(i), want[i]);
        }
    }

    static void dueAnchor(String what, ChargeEstimator x, int anchor, int... want) {
        for (int i = 0; i < want.length; i++) {
            due(what + ": anchor(" + anchor + ", " + i + ")", x.anchor(anchor, i), want[i]);
        }
    }

    static void fail(String text) {
        wrong++;
        if (wrong <= 50) {
            System.out.println(text);
        }
    }

    static void write(ChargeEstimator x, String text) {
        for (int i = 0; i < text.length(); i++) {
            x.append(text.charAt(i));
        }
    }

    static void end() {
        System.out.println(wrong == 0 ? "all answers are as due" : wrong + " answers are not as due");
        if (wrong != 0) {
            System.exit(1);
        }
    }
}
