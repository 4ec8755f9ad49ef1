import java.util.ArrayList;
import java.util.Arrays;
import java.util.List;
import java.util.Random;

/** Random programs, and texts that are nearly one, against the model. */
public final class ProgramsTest {
    private static final Check CHECK = new Check();
    private static final Random RANDOM = new Random(17);
    private static final Programs PROGRAMS = new Programs(RANDOM);
    /** Used for some programs one after the other, as nothing of one may stay for the next. */
    private static LabelGuard guard = new LabelGuard();

    public static void main(String[] args) {
        for (int i = 0; i < 6000; i++) {
            guard = i % 6 == 0 ? new LabelGuard() : guard;
            compare(PROGRAMS.row(0, RANDOM.nextInt(73)));
        }
        for (int i = 0; i < 60000; i++) {
            compareError(PROGRAMS.changed(Programs.textOf(PROGRAMS.row(0, RANDOM.nextInt(73)))));
        }
        compareShortTexts("a1=;?*{}(+)", 5);
        CHECK.end();
    }

    private static void compareShortTexts(String letters, int longest) {
        List<String> texts = new ArrayList<>(List.of(""));
        for (int at = 0; at < texts.size(); at++) {
            String text = texts.get(at);
            compareError(text);
            int error = Model.errorPosition(text);
            boolean open = error < 0 || error == text.length();
            for (int i = 0; i < letters.length() && text.length() < longest && open; i++) {
                texts.add(text + letters.charAt(i));
            }
        }
    }

    private static void compareError(String text) {
        LabelGuard x = new LabelGuard();
        int want = Model.errorPosition(text);
        boolean threw = Check.compiled(x, text).equals(Check.ILLEGAL_ARGUMENT);
        CHECK.same("compile " + text, want >= 0, threw);
        CHECK.same("position of " + text, want, x.position());
    }

    private static int[] randomLabels(Model.Levels levels, LabelGuard x, int side) {
        int[] labels = new int[8];
        for (int v = 0; v < 8; v++) {
            boolean end = RANDOM.nextInt(3) == 0;
            labels[v] = end ? side == 0 ? levels.bottom() : levels.top() : RANDOM.nextInt(levels.n);
            x.label(side, v, labels[v]);
        }
        return labels;
    }

    private static void compare(List<Programs.Statement> row) {
        String text = Programs.textOf(row);
        CHECK.same("the model's own: " + text, -1, Model.errorPosition(text));
        Model.Levels levels = Model.Levels.randomLattice(RANDOM);
        LabelGuard x = guard;
        x.levels(levels.n, levels.below);
        int[] entry = randomLabels(levels, x, 0);
        int[] policy = new int[8];
        Arrays.fill(policy, levels.top());
        if (RANDOM.nextInt(3) == 0) {
            policy = randomLabels(levels, x, 1);
        }
        int[] labels = Programs.labelsOf(row, levels, levels.bottom(), entry);
        List<int[]> code = new ArrayList<>();
        Programs.emitAll(row, code);
        code.add(new int[] {9, 0});
        boolean allowed = true;
        for (int v = 0; v < 8; v++) {
            allowed &= levels.notAbove(labels[v], policy[v]);
        }
        CHECK.same("compile " + text, allowed ? code.size() : Check.ILLEGAL_STATE, Check.compiled(x, text));
        for (int v = 0; v < 8; v++) {
            CHECK.same("exit " + v + " of " + text, labels[v], x.exit(v));
        }
        if (allowed) {
            StringBuilder listing = new StringBuilder();
            code.forEach(one -> listing.append(one[0]).append(':').append(one[1]).append(' '));
            CHECK.same("code of " + text, listing.toString().trim(), Check.listing(x));
            CHECK.same("verify " + text, code.size(), Check.answer(x::verify));
            for (int v = 0; v < 8; v++) {
                CHECK.same("code lets out as much as " + text, labels[v], x.found(code.size() - 1, v));
            }
        }
        for (int times = 0; times < 3; times++) {
            compareRuns(row, code.toArray(new int[0][]), x, allowed);
        }
    }

    private static int[] randomValues() {
        int[] values = new int[8];
        for (int v = 0; v < 8; v++) {
            values[v] = RANDOM.nextInt(5) == 0 ? RANDOM.nextInt() : RANDOM.nextInt(5) - 1;
        }
        return values;
    }

    private static void compareRuns(List<Programs.Statement> row, int[][] code, LabelGuard x, boolean allowed) {
        String text = Programs.textOf(row);
        int[] values = randomValues();
        int most = RANDOM.nextBoolean() ? 500 : RANDOM.nextInt(12);
        int[] meant = values.clone();
        int left = Programs.followAll(row, meant, most);
        setAll(x, values);
        CHECK.same("follow " + most + " " + text, left < 0 ? -1 : most - left, x.follow(most));
        CHECK.same("values of " + text, Arrays.toString(left < 0 ? values : meant), valuesOf(x));
        if (!allowed) {
            return;
        }
        int steps = RANDOM.nextBoolean() ? 2000 : RANDOM.nextInt(60);
        int[] ran = values.clone();
        int want = new Model.Instructions(code).run(ran, steps);
        setAll(x, values);
        CHECK.same("run " + steps + " " + text, want, Check.answer(() -> x.run(steps)));
        CHECK.same("values after " + text, Arrays.toString(want < 0 ? values : ran), valuesOf(x));
        if (want >= 0 && left >= 0) {
            CHECK.same("run and follow " + text, Arrays.toString(meant), Arrays.toString(ran));
        }
    }

    private static void setAll(LabelGuard x, int[] values) {
        for (int v = 0; v < 8; v++) {
            x.set(v, values[v]);
        }
    }

    private static String valuesOf(LabelGuard x) {
        int[] values = new int[8];
        for (int v = 0; v < 8; v++) {
            values[v] = x.get(v);
        }
        return Arrays.toString(values);
    }
}
