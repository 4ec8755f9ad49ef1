import java.lang.reflect.InvocationTargetException;
import java.lang.reflect.Method;
import java.util.ArrayDeque;
import java.util.ArrayList;
import java.util.Deque;
import java.util.HashMap;
import java.util.List;
import java.util.Map;
import java.util.Random;
import java.util.TreeMap;

/** Runs of 512 calls of all kinds, in any order and with any arguments, each against the document told twice. */
public final class WholeTest {
    private static final Check CHECK = new Check();
    private static final int RUNS = 1500;
    private static final int CALLS = 512;
    private static final int[] EDGES = {-2, -1, 0, 1, 2, 5, 6, 7, 8, 9, 10, 17, 18, 63, 64, 65, 71, 72, 73, 99, 100,
        101, 499, 500, 501, 1999, 2000, 2001, Integer.MAX_VALUE, Integer.MIN_VALUE};

    /** How often each method gave each kind of answer, so that none of them is missing unseen. */
    private static final Map<String, Integer> SEEN = new TreeMap<>();

    private record Call(String name, long... arguments) {
        String told() {
            List<String> all = new ArrayList<>();
            for (long a : arguments) {
                all.add(String.valueOf(a));
            }
            return name + "(" + String.join(", ", all) + ")";
        }
    }

    private static final Map<String, Method> FIRST = methodsOf(LabelGuard.class);
    private static final Map<String, Method> AGAIN = methodsOf(Second.class);

    private final Random random;
    private final Programs programs;
    private final Codes codes;
    private final Deque<Call> script = new ArrayDeque<>();
    private final Deque<String> past = new ArrayDeque<>();

    private WholeTest(int seed) {
        random = new Random(seed);
        programs = new Programs(random);
        codes = new Codes(random);
    }

    public static void main(String[] args) throws Exception {
        for (int seed = 0; seed < RUNS && CHECK.isClean(); seed++) {
            new WholeTest(seed).compare("run " + seed);
        }
        for (String answer : List.of("levels true", "levels " + Check.ILLEGAL_ARGUMENT, "levels " + Check.ILLEGAL_STATE,
                "join NONE", "join more", "label true", "label false", "write true", "write false", "compile more",
                "compile " + Check.ILLEGAL_ARGUMENT, "compile " + Check.ILLEGAL_STATE, "position NONE", "position more",
                "exit NONE", "exit more", "code NONE", "code more", "empty null", "put true", "put false",
                "verify more", "verify " + Check.ILLEGAL_ARGUMENT, "verify " + Check.ILLEGAL_STATE, "found NONE",
                "found more", "set true", "set false", "get more", "run NONE", "run more",
                "run " + Check.ILLEGAL_ARGUMENT, "run " + Check.ILLEGAL_STATE, "follow NONE", "follow more")) {
            CHECK.same("often " + answer, true, SEEN.getOrDefault(answer, 0) >= 200);
        }
        CHECK.end();
    }

    private static Map<String, Method> methodsOf(Class<?> type) {
        Map<String, Method> all = new HashMap<>();
        for (Method m : type.getDeclaredMethods()) {
            if (java.lang.reflect.Modifier.isPublic(m.getModifiers())) {
                all.put(m.getName(), m);
            }
        }
        return all;
    }

    private void compare(String run) throws Exception {
        LabelGuard first = new LabelGuard();
        Second again = new Second();
        for (int calls = 0; calls < CALLS && CHECK.isClean(); calls++) {
            while (script.isEmpty()) {
                plan();
            }
            Call call = script.poll();
            String want = answer(AGAIN, again, call);
            String got = answer(FIRST, first, call);
            CHECK.same(run + ", call " + calls + " behind " + past + ": " + call.told(), want, got);
            note(call, want);
        }
    }

    private void note(Call call, String answer) {
        past.add(call.told() + " " + answer);
        if (past.size() > 30) {
            past.poll();
        }
        boolean number = answer.matches("-?[0-9]+");
        SEEN.merge(call.name + " " + (!number ? answer : answer.equals("-1") ? "NONE" : "more"), 1, Integer::sum);
    }

    private static String answer(Map<String, Method> methods, Object target, Call call) throws Exception {
        Method m = methods.get(call.name);
        Object[] arguments = new Object[call.arguments.length];
        for (int i = 0; i < arguments.length; i++) {
            boolean isLong = m.getParameterTypes()[i] == long.class;
            arguments[i] = isLong ? (Object) call.arguments[i] : (Object) (int) call.arguments[i];
        }
        try {
            return String.valueOf(m.invoke(target, arguments));
        } catch (InvocationTargetException e) {
            return "throws." + e.getCause().getClass().getSimpleName();
        }
    }

    private void add(String name, long... arguments) {
        script.add(new Call(name, arguments));
    }

    /** Mostly what is there, sometimes an edge of it or of something else. */
    private long some(int many) {
        return random.nextInt(25) == 0 ? EDGES[random.nextInt(EDGES.length)] : random.nextInt(many);
    }

    private void plan() {
        switch (random.nextInt(12)) {
            case 0 -> planLevels();
            case 1 -> planLabels();
            case 2, 3 -> planProgram();
            case 4 -> planCode();
            case 5 -> planMoreCode();
            case 6 -> planValues();
            case 7, 8 -> planRuns();
            case 9 -> planChecks();
            default -> planQuestions();
        }
    }

    private void planLevels() {
        Model.Levels any = random.nextInt(3) == 0 ? Model.Levels.random(random) : Model.Levels.randomLattice(random);
        add("levels", random.nextInt(8) == 0 ? some(9) : any.n, any.below);
        add("join", some(6), some(6));
    }

    private void planLabels() {
        int most = 1 + random.nextInt(6);
        for (int i = random.nextInt(8); i >= 0; i--) {
            add("label", some(2), some(8), some(most));
        }
    }

    private void planProgram() {
        String text = Programs.textOf(programs.row(0, random.nextInt(73)));
        text = random.nextInt(4) == 0 ? programs.changed(text) : text;
        text = text.length() > 72 ? text.substring(0, 72) : text;
        for (int at = 0; at < text.length();) {
            int end = Math.min(text.length(), at + 1 + random.nextInt(8));
            add("write", spread(text.substring(at, end)));
            at = end;
            if (random.nextInt(40) == 0) {
                add("write", random.nextLong());
            }
        }
        if (random.nextInt(12) > 0) {
            add("compile");
            add("position");
            add("exit", some(8));
        }
    }

    /** Up to eight characters, with zeros anywhere between them. */
    private long spread(String text) {
        long w = 0;
        int left = text.length();
        for (int place = 8; place > 0; place--) {
            boolean now = left > 0 && (left == place || random.nextInt(3) > 0);
            w = w << 8 | (now ? text.charAt(text.length() - left) : 0);
            left -= now ? 1 : 0;
        }
        return w;
    }

    private void planCode() {
        int[][] code = random.nextInt(3) == 0 ? codes.wildCode() : codes.tameCode();
        if (random.nextInt(4) == 0 && code.length > 0 && code.length < 20) {
            code = codes.scattered(code);
        }
        add("empty");
        for (int[] one : code) {
            add("put", one[0], one[1]);
        }
        add("verify");
        add("found", some(code.length + 1), some(18));
    }

    private void planMoreCode() {
        int many = random.nextInt(12) == 0 ? 101 : random.nextInt(3);
        for (int i = 0; i < many; i++) {
            add("put", many > 3 ? 9 : some(10), some(10));
        }
        if (random.nextInt(6) == 0) {
            add("empty");
        }
    }

    private void planValues() {
        for (int i = random.nextInt(5); i >= 0; i--) {
            add("set", some(8), random.nextInt(4) == 0 ? random.nextInt() : random.nextInt(6) - 1);
        }
    }

    private void planRuns() {
        String name = random.nextBoolean() ? "run" : "follow";
        int most = random.nextInt(4) > 0 ? name.equals("run") ? 2001 : 501 : 20;
        add(name, random.nextInt(8) == 0 ? EDGES[random.nextInt(EDGES.length)] : some(most));
        for (int v = random.nextInt(3) == 0 ? 8 : 2; v > 0; v--) {
            add("get", some(8));
        }
    }

    private void planChecks() {
        add("verify");
        if (random.nextBoolean()) {
            add("run", some(2001));
        }
        for (int i = random.nextInt(20); i > 0; i--) {
            add("found", some(30), some(18));
        }
    }

    private void planQuestions() {
        add("position");
        for (int i = random.nextInt(4); i > 0; i--) {
            add("exit", some(8));
            add("code", some(30), some(2));
            add("code", -1, some(3));
            add("found", some(30), some(12));
            add("join", some(6), some(6));
            add("get", some(8));
        }
    }
}
