import java.util.concurrent.Callable;

/** What the tests share: comparing answers, and telling a thrown exception as an answer. */
final class Check {
    static final String ILLEGAL_ARGUMENT = "throws.IllegalArgumentException";
    static final String ILLEGAL_STATE = "throws.IllegalStateException";

    private int calls = 0;
    private int wrong = 0;

    /** What a call answers; an exception is an answer too, by its exact class. */
    static String answer(Callable<?> call) {
        try {
            return String.valueOf(call.call());
        } catch (Exception e) {
            return "throws." + e.getClass().getSimpleName();
        }
    }

    void due(String what, Object want, Callable<?> call) {
        same(what, want, answer(call));
    }

    void same(String what, Object want, Object got) {
        calls++;
        if (!String.valueOf(want).equals(String.valueOf(got))) {
            wrong++;
            if (wrong <= 40) {
                System.out.println(what + " answered " + got + ", due is " + want);
            }
        }
    }

    boolean isClean() {
        return wrong == 0;
    }

    void end() {
        System.out.println(calls + " answers looked at, " + wrong + " not as due");
        if (wrong != 0 || calls == 0) {
            System.exit(1);
        }
    }

    static boolean writeAll(LabelGuard guard, String text) {
        for (int start = 0; start < text.length(); start += 8) {
            if (!guard.write(packed(text.substring(start, Math.min(start + 8, text.length()))))) {
                return false;
            }
        }
        return true;
    }

    static long packed(String text) {
        long w = 0;
        for (int i = 0; i < text.length(); i++) {
            w = w << 8 | text.charAt(i);
        }
        return w;
    }

    static String compiled(LabelGuard guard, String text) {
        if (!writeAll(guard, text)) {
            return "not written";
        }
        return answer(guard::compile);
    }

    /** The order in which a level is not above another just if the pair's code 10 * a + b is named, or a = b. */
    static long order(int n, int... pairs) {
        long below = 0;
        for (int a = 0; a < n; a++) {
            below |= 1L << (7 * a);
        }
        for (int pair : pairs) {
            below |= 1L << (6 * (pair / 10) + pair % 10);
        }
        return below;
    }

    static String listing(LabelGuard guard) {
        StringBuilder out = new StringBuilder();
        for (int k = 0; k < guard.code(-1, 0); k++) {
            out.append(k == 0 ? "" : " ").append(guard.code(k, 0)).append(':').append(guard.code(k, 1));
        }
        return out.toString();
    }

    static void putAll(LabelGuard guard, int... kindsAndArguments) {
        for (int i = 0; i + 1 < kindsAndArguments.length; i += 2) {
            guard.put(kindsAndArguments[i], kindsAndArguments[i + 1]);
        }
    }
}
