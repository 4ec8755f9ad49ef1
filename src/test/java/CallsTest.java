import java.util.Random;
import java.util.Set;

/** Any calls with any arguments: nothing is thrown but what the document names, and twins answer the same. */
public final class CallsTest {
    private static final Check CHECK = new Check();
    private static final Set<String> THROWERS = Set.of("levels", "compile", "verify", "run");
    private static final String[] NAMES = {"levels", "join", "label", "write", "compile", "position", "exit", "code",
        "empty", "put", "verify", "found", "set", "get", "run", "follow"};
    private static final int[] EDGES = {-1, 0, 1, 7, 8, 9, 72, 99, 100, 500, 501, 2000, 2001, Integer.MAX_VALUE,
        Integer.MIN_VALUE};
    private static final String[] TEXTS = {"a=1;", "b=a;", "?a{", "}{", "}", "*b{", "b=", "(a-1);", "c=(a<b)", ";",
        "h=99;", "x", " "};

    public static void main(String[] args) {
        for (int seed = 0; seed < 4000; seed++) {
            LabelGuard one = new LabelGuard();
            LabelGuard twin = new LabelGuard();
            Random random = new Random(seed);
            Random again = new Random(seed);
            for (int calls = 0; calls < 512 && CHECK.isClean(); calls++) {
                String name = NAMES[random.nextInt(NAMES.length)];
                String answer = Check.answer(() -> call(one, name, random));
                String other = Check.answer(() -> call(twin, NAMES[again.nextInt(NAMES.length)], again));
                CHECK.same(seed + ": the twin's " + name, answer, other);
                boolean named = THROWERS.contains(name)
                        && (answer.equals(Check.ILLEGAL_ARGUMENT) || answer.equals(Check.ILLEGAL_STATE));
                CHECK.same(seed + ": " + name + " " + answer, false, answer.startsWith("throws") && !named);
            }
        }
        CHECK.end();
    }

    private static int any(Random random, int small) {
        return random.nextInt(6) == 0 ? EDGES[random.nextInt(EDGES.length)] : random.nextInt(small);
    }

    private static long anyText(Random random) {
        return random.nextInt(8) == 0 ? random.nextLong() : Check.packed(TEXTS[random.nextInt(TEXTS.length)]);
    }

    private static Object call(LabelGuard x, String name, Random random) {
        switch (name) {
            case "levels":
                Model.Levels some = Model.Levels.random(random);
                return x.levels(random.nextInt(9) == 0 ? any(random, 9) : some.n, some.below);
            case "join":
                return x.join(any(random, 6), any(random, 6));
            case "label":
                return x.label(any(random, 2), any(random, 8), any(random, 4));
            case "write":
                return x.write(anyText(random));
            case "compile":
                return x.compile();
            case "position":
                return x.position();
            case "exit":
                return x.exit(any(random, 8));
            case "code":
                return x.code(any(random, 20), any(random, 2));
            case "empty":
                if (random.nextInt(4) == 0) {
                    x.empty();
                }
                return "";
            case "put":
                return x.put(any(random, 10), any(random, 10));
            case "verify":
                return x.verify();
            case "found":
                return x.found(any(random, 10), any(random, 12));
            case "set":
                return x.set(any(random, 8), random.nextInt(5));
            case "get":
                return x.get(any(random, 8));
            case "run":
                return x.run(any(random, 200));
            default:
                return x.follow(any(random, 50));
        }
    }
}
