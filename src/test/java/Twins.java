import java.util.LinkedHashMap;
import java.util.Map;
import java.util.Set;
import java.util.TreeSet;
import java.util.function.Consumer;
import java.util.function.Function;

/**
 * Shows what a call changed: one object gets it and its twin does not, and then both are asked for everything
 * that can be known of them. Each question goes to new twins, so that no object is used for more than 512 calls.
 */
final class Twins {
    static final long DIAMOND = Check.order(4, 1, 2, 3, 13, 23);

    /** Objects that have lived, by name: what a refused call must leave alone differs from one to the next. */
    static final Map<String, Consumer<LabelGuard>> STATES = new LinkedHashMap<>();
    private static final Map<String, Function<LabelGuard, String>> QUESTIONS = new LinkedHashMap<>();

    static {
        STATES.put("new", x -> { });
        STATES.put("compiled", Twins::compiledOne);
        STATES.put("verified", Twins::verifiedOne);
        STATES.put("unsafe", Twins::unsafeOne);
        STATES.put("shapeless", Twins::shapelessOne);
        STATES.put("full", Twins::fullOne);
        QUESTIONS.put("joins", Twins::joins);
        QUESTIONS.put("entry", Twins::entries);
        QUESTIONS.put("policy", Twins::policies);
        QUESTIONS.put("text", Twins::text);
        QUESTIONS.put("room", Twins::room);
        QUESTIONS.put("position", x -> String.valueOf(x.position()));
        QUESTIONS.put("exit", Twins::exits);
        QUESTIONS.put("follow", x -> x.follow(500) + ":" + values(x));
        QUESTIONS.put("code", Check::listing);
        QUESTIONS.put("run", x -> Check.answer(() -> x.run(2000)) + ":" + values(x));
        QUESTIONS.put("found", x -> found(x, 0));
        QUESTIONS.put("found from 20 on", x -> found(x, 20));
        QUESTIONS.put("found from 80 on", x -> found(x, 80));
        QUESTIONS.put("values", Twins::values);
    }

    private final Check check;

    Twins(Check check) {
        this.check = check;
    }

    /** A call is refused and changes nothing, whatever the object has been through. */
    void refusedAlways(String what, Object answer, Function<LabelGuard, Object> call) {
        for (String state : STATES.keySet()) {
            Consumer<LabelGuard> start = x -> {
                STATES.get(state).accept(x);
                Check.writeAll(x, "a=1;b=");
            };
            refused(what + " (" + state + ")", answer, start, call);
        }
    }

    void refused(String what, Object answer, Consumer<LabelGuard> start, Function<LabelGuard, Object> call) {
        changed(what, answer, start, call, Set.of());
    }

    /** A call answers what is due, and the object differs from its twin in just what is named. */
    void changed(String what, Object answer, Consumer<LabelGuard> start, Function<LabelGuard, Object> call,
            Set<String> named) {
        Set<String> differing = new TreeSet<>();
        StringBuilder told = new StringBuilder();
        for (Map.Entry<String, Function<LabelGuard, String>> question : QUESTIONS.entrySet()) {
            LabelGuard one = made(start);
            LabelGuard twin = made(start);
            check.due(what, answer, () -> call.apply(one));
            String got = question.getValue().apply(one);
            String before = question.getValue().apply(twin);
            if (!got.equals(before)) {
                differing.add(question.getKey());
                told.append(", ").append(question.getKey()).append(' ').append(before).append(" is ").append(got);
            }
        }
        check.same(what + " changed" + told + " and that", new TreeSet<>(named), differing);
    }

    private static LabelGuard made(Consumer<LabelGuard> start) {
        LabelGuard x = new LabelGuard();
        start.accept(x);
        return x;
    }

    private static void labelled(LabelGuard x) {
        x.levels(4, DIAMOND);
        x.label(0, 0, 1);
        x.label(0, 1, 2);
        x.label(0, 7, 3);
        x.label(1, 2, 1);
        x.label(1, 3, 2);
        x.label(1, 4, 0);
        x.set(0, 3);
        x.set(1, -2);
        x.set(7, Integer.MIN_VALUE);
    }

    private static void compiledOne(LabelGuard x) {
        labelled(x);
        Check.compiled(x, "*a{a=(a-1);c=(c+2);}d=b;");
        Check.compiled(x, "d=b;}");
    }

    /** Its program is too secret and has no code; its code is no program's. */
    private static void verifiedOne(LabelGuard x) {
        labelled(x);
        Check.putAll(x, 1, 0, 7, 4, 0, 5, 8, 5, 0, 6, 2, 5, 9, 0, 9, 1);
        Check.answer(x::verify);
        Check.compiled(x, "?a{e=h;}{}d=b;");
    }

    private static void unsafeOne(LabelGuard x) {
        labelled(x);
        Check.compiled(x, "f=a;");
        x.empty();
        Check.putAll(x, 1, 0, 1, 1, 3, 0, 2, 4, 9, 0);
        Check.answer(x::verify);
    }

    private static void shapelessOne(LabelGuard x) {
        labelled(x);
        Check.putAll(x, 0, 1, 2, 0, 8, 3);
        Check.answer(x::verify);
        Check.compiled(x, "g");
    }

    private static void fullOne(LabelGuard x) {
        labelled(x);
        for (int k = 0; k < 49; k++) {
            x.put(1, k % 8);
            x.put(2, 5 + k % 3);
        }
        x.put(9, -5);
        x.put(9, 5);
        Check.answer(x::verify);
    }

    private static String joins(LabelGuard x) {
        StringBuilder out = new StringBuilder();
        for (int a = -1; a <= 6; a++) {
            for (int b = -1; b <= 6; b++) {
                out.append(x.join(a, b)).append(' ');
            }
        }
        return out.toString();
    }

    private static String entries(LabelGuard x) {
        x.empty();
        x.put(9, 0);
        Check.answer(x::verify);
        StringBuilder out = new StringBuilder();
        for (int v = 0; v < 8; v++) {
            out.append(x.found(0, v));
        }
        return out.toString();
    }

    /** For each variable the levels that its policy lets out. */
    static String policies(LabelGuard x) {
        int bottom = 0;
        for (int a = 1; a < 6; a++) {
            bottom = x.join(a, bottom) == bottom ? a : bottom;
        }
        x.empty();
        x.put(9, 0);
        for (int v = 0; v < 8; v++) {
            x.label(0, v, bottom);
        }
        StringBuilder out = new StringBuilder();
        for (int v = 0; v < 8; v++) {
            out.append(v == 0 ? "" : " ");
            for (int level = 0; level < 6; level++) {
                boolean letOut = x.label(0, v, level) && Check.answer(x::verify).equals("1");
                out.append(letOut ? String.valueOf(level) : "");
            }
            x.label(0, v, bottom);
        }
        return out.toString();
    }

    /** The text, which 7; makes a program of in all states that begin one. */
    private static String text(LabelGuard x) {
        x.empty();
        x.levels(1, 1L);
        x.write(Check.packed("7;"));
        return Check.answer(x::compile) + " " + x.position() + " " + Check.listing(x);
    }

    private static String room(LabelGuard x) {
        int many = 0;
        while (many < 100 && x.write(Check.packed(" "))) {
            many++;
        }
        return String.valueOf(many);
    }

    static String exits(LabelGuard x) {
        StringBuilder out = new StringBuilder();
        for (int v = -1; v <= 8; v++) {
            out.append(x.exit(v)).append(' ');
        }
        return out.toString();
    }

    static String values(LabelGuard x) {
        StringBuilder out = new StringBuilder();
        for (int v = 0; v < 8; v++) {
            out.append(v == 0 ? "" : " ").append(x.get(v));
        }
        return out.toString();
    }

    private static String found(LabelGuard x, int from) {
        StringBuilder out = new StringBuilder();
        for (int k = from; k < from + 20; k++) {
            for (int what = 0; what < 18; what++) {
                out.append(x.found(k, what)).append(' ');
            }
        }
        return out.toString();
    }
}
