import java.nio.file.Files;
import java.nio.file.Path;
import java.util.List;
import java.util.regex.Matcher;
import java.util.regex.Pattern;

/** The examples of README.md: each line that has an answer behind it answers so, one after the other. */
public final class ReadmeTest {
    private static final Check CHECK = new Check();
    private static final Pattern LINE = Pattern.compile("guard\\.(\\w+)\\((.*?)\\); +// (-?\\w+(\\.\\w+)?).*");

    public static void main(String[] args) throws Exception {
        LabelGuard guard = new LabelGuard();
        List<String> lines = Files.readAllLines(Path.of("README.md"));
        int examples = 0;
        for (String line : lines) {
            Matcher parts = LINE.matcher(line);
            if (parts.matches()) {
                boolean empties = parts.group(1).equals("empty");
                String got = Check.answer(() -> call(guard, parts.group(1), numbers(parts.group(2))));
                CHECK.same(line, empties ? "null" : parts.group(3), got);
                examples++;
            }
        }
        CHECK.same("every line with a call was looked at",
                lines.stream().filter(line -> line.startsWith("guard.")).count(), examples);
        CHECK.same("there are examples", true, examples > 20);
        namesEveryCallAndTest(String.join("\n", lines));
        CHECK.end();
    }

    private static void namesEveryCallAndTest(String readme) throws Exception {
        for (java.lang.reflect.Method m : LabelGuard.class.getDeclaredMethods()) {
            if (java.lang.reflect.Modifier.isPublic(m.getModifiers())) {
                CHECK.same("README.md tells of " + m.getName(), true, readme.contains("`" + m.getName() + "("));
            }
        }
        try (java.util.stream.Stream<Path> files = Files.list(Path.of("src/test/java"))) {
            for (Path file : files.toList()) {
                String name = file.getFileName().toString().replace(".java", "");
                CHECK.same("README.md tells of " + name, true, readme.contains("`" + name + "`"));
            }
        }
    }

    private static long[] numbers(String written) {
        return Pattern.compile(", ").splitAsStream(written).filter(one -> !one.isEmpty())
                .mapToLong(ReadmeTest::number).toArray();
    }

    private static long number(String written) {
        String digits = written.replace("L", "");
        if (digits.startsWith("0x")) {
            return Long.parseLong(digits.substring(2), 16);
        }
        return digits.startsWith("0b") ? Long.parseLong(digits.substring(2), 2) : Long.parseLong(digits);
    }

    private static Object call(LabelGuard x, String name, long[] a) {
        switch (name) {
            case "levels":
                return x.levels((int) a[0], a[1]);
            case "label":
                return x.label((int) a[0], (int) a[1], (int) a[2]);
            case "write":
                return x.write(a[0]);
            case "compile":
                return x.compile();
            case "position":
                return x.position();
            case "exit":
                return x.exit((int) a[0]);
            case "empty":
                x.empty();
                return null;
            case "put":
                return x.put((int) a[0], (int) a[1]);
            case "verify":
                return x.verify();
            case "found":
                return x.found((int) a[0], (int) a[1]);
            case "set":
                return x.set((int) a[0], (int) a[1]);
            case "get":
                return x.get((int) a[0]);
            case "run":
                return x.run((int) a[0]);
            case "follow":
                return x.follow((int) a[0]);
            default:
                return "no call of the examples";
        }
    }
}
