import java.util.ArrayList;
import java.util.Arrays;
import java.util.List;
import java.util.Random;

/** Random programs, and texts that are nearly one, against the model. */
public final class ProgramsTest {
    private static final Check CHECK = new Check();
    private static final Random RANDOM = new Random(17);
    /** Used for some programs one after the other, as nothing of one may stay for the next. */
    private static LabelGuard guard = new LabelGuard();

    private interface Expression {
        String text();

        int label(Model.Levels levels, int[] labels);

        int value(int[] values);

        void emit(List<int[]> code);
    }

    private record Constant(int number, String digits) implements Expression {
        public String text() {
            return digits;
        }

        public int label(Model.Levels levels, int[] labels) {
            return levels.bottom();
        }

        public int value(int[] values) {
            return number;
        }

        public void emit(List<int[]> code) {
            code.add(new int[] {0, number});
        }
    }

    private record Name(int variable) implements Expression {
        public String text() {
            return String.valueOf((char) ('a' + variable));
        }

        public int label(Model.Levels levels, int[] labels) {
            return labels[variable];
        }

        public int value(int[] values) {
            return values[variable];
        }

        public void emit(List<int[]> code) {
            code.add(new int[] {1, variable});
        }
    }

    private record Pair(Expression x, char operation, Expression y) implements Expression {
        public String text() {
            return "(" + x.text() + operation + y.text() + ")";
        }

        public int label(Model.Levels levels, int[] labels) {
            return levels.join(x.label(levels, labels), y.label(levels, labels));
        }

        public int value(int[] values) {
            return Model.calculated(operation, x.value(values), y.value(values));
        }

        public void emit(List<int[]> code) {
            x.emit(code);
            y.emit(code);
            code.add(new int[] {3 + "+-*<".indexOf(operation), 0});
        }
    }

    /** Letter = is an assignment to a variable, ? and * have one program or two. */
    private record Statement(char letter, int variable, Expression e, List<Statement> first, List<Statement> second) {
        String text() {
            if (letter == '=') {
                return (char) ('a' + variable) + "=" + e.text() + ";";
            }
            String one = letter + e.text() + "{" + textOf(first) + "}";
            return letter == '*' ? one : one + "{" + textOf(second) + "}";
        }

        int[] labels(Model.Levels levels, int under, int[] before) {
            int inside = levels.join(under, e.label(levels, before));
            if (letter == '=') {
                int[] after = before.clone();
                after[variable] = inside;
                return after;
            }
            if (letter == '?') {
                return levels.join(labelsOf(first, levels, inside, before), labelsOf(second, levels, inside, before));
            }
            int[] after = levels.join(before, labelsOf(first, levels, inside, before));
            return Arrays.equals(after, before) ? before : labels(levels, under, after);
        }

        void emit(List<int[]> code) {
            int start = code.size();
            e.emit(code);
            if (letter == '=') {
                code.add(new int[] {2, variable});
                return;
            }
            int[] zero = {7, 0};
            int[] jump = {8, start};
            code.add(zero);
            emitAll(first, code);
            code.add(jump);
            zero[1] = code.size();
            if (letter == '?') {
                emitAll(second, code);
                jump[1] = code.size();
            }
        }

        /** How many looks are left, or -1 if there were too few. */
        int follow(int[] values, int left) {
            if (letter == '=') {
                values[variable] = e.value(values);
                return left;
            }
            if (left == 0) {
                return -1;
            }
            boolean yes = e.value(values) != 0;
            if (letter == '?') {
                return followAll(yes ? first : second, values, left - 1);
            }
            int after = yes ? followAll(first, values, left - 1) : left - 1;
            return yes && after >= 0 ? follow(values, after) : after;
        }
    }

    private static String textOf(List<Statement> row) {
        StringBuilder out = new StringBuilder();
        row.forEach(s -> out.append(s.text()));
        return out.toString();
    }

    private static int[] labelsOf(List<Statement> row, Model.Levels levels, int under, int[] before) {
        int[] labels = before;
        for (Statement s : row) {
            labels = s.labels(levels, under, labels);
        }
        return labels;
    }

    private static void emitAll(List<Statement> row, List<int[]> code) {
        row.forEach(s -> s.emit(code));
    }

    private static int followAll(List<Statement> row, int[] values, int most) {
        int left = most;
        for (Statement s : row) {
            left = left < 0 ? left : s.follow(values, left);
        }
        return left;
    }

    private static Expression expression(int depth, int room) {
        int pick = RANDOM.nextInt(10);
        if (pick < 4 && depth < 6 && room >= 5) {
            Expression x = expression(depth + 1, room - 4);
            Expression y = expression(depth + 1, room - 3 - x.text().length());
            return new Pair(x, "+-*<".charAt(RANDOM.nextInt(4)), y);
        }
        if (pick < 6) {
            String digits = String.valueOf(RANDOM.nextInt(3) == 0 ? RANDOM.nextInt(1000) : RANDOM.nextInt(3));
            digits = RANDOM.nextInt(9) == 0 ? "0" + digits : digits;
            digits = digits.length() > Math.min(3, room) ? "1" : digits;
            return new Constant(Integer.parseInt(digits), digits);
        }
        return new Name(RANDOM.nextInt(RANDOM.nextInt(3) == 0 ? 8 : 4));
    }

    private static List<Statement> row(int depth, int room) {
        List<Statement> row = new ArrayList<>();
        int left = room;
        while (left >= 4 && RANDOM.nextInt(8) > 0) {
            Statement s = statement(depth, left);
            if (s == null) {
                break;
            }
            row.add(s);
            left -= s.text().length();
        }
        return row;
    }

    private static Statement statement(int depth, int room) {
        int pick = RANDOM.nextInt(10);
        if (pick < 5 || depth >= 6 || room < 6) {
            return new Statement('=', RANDOM.nextInt(6), expression(depth, room - 3), List.of(), List.of());
        }
        Expression e = expression(depth, Math.min(room - 5, 9));
        List<Statement> first = row(depth + 1, (room - 5 - e.text().length()) * (1 + RANDOM.nextInt(2)) / 2);
        if (pick < 8) {
            return new Statement('*', 0, e, first, List.of());
        }
        int used = 5 + e.text().length() + textOf(first).length();
        return used > room ? null : new Statement('?', 0, e, first, row(depth + 1, room - used));
    }

    private static String changed(String text) {
        StringBuilder out = new StringBuilder(text);
        String letters = "abh=;?*{}()+-<0123 iz~";
        for (int times = RANDOM.nextInt(2); times >= 0; times--) {
            int at = RANDOM.nextInt(out.length() + 1);
            char c = letters.charAt(RANDOM.nextInt(letters.length()));
            int pick = RANDOM.nextInt(4);
            if (pick == 0 && at < out.length()) {
                out.deleteCharAt(at);
            } else if (pick == 1 && at < out.length()) {
                out.setCharAt(at, c);
            } else if (pick == 2) {
                out.setLength(at);
            } else if (out.length() < 72) {
                out.insert(at, c);
            }
        }
        return out.toString();
    }

    public static void main(String[] args) {
        for (int i = 0; i < 6000; i++) {
            guard = i % 6 == 0 ? new LabelGuard() : guard;
            compare(row(0, RANDOM.nextInt(73)));
        }
        for (int i = 0; i < 60000; i++) {
            compareError(changed(textOf(row(0, RANDOM.nextInt(73)))));
        }
        compareShortTexts("a1=;?*{}(+)", 5);
        CHECK.end();
    }

    private static void compareShortTexts(String letters, int longest) {
        List<String> texts = new ArrayList<>(List.of(""));
        for (int at = 0; at < texts.size(); at++) {
            String text = texts.get(at);
            compareError(text);
            int error = Model.errorPosition(text);
            boolean open = error < 0 || error == text.length();
            for (int i = 0; i < letters.length() && text.length() < longest && open; i++) {
                texts.add(text + letters.charAt(i));
            }
        }
    }

    private static void compareError(String text) {
        LabelGuard x = new LabelGuard();
        int want = Model.errorPosition(text);
        boolean threw = Check.compiled(x, text).equals(Check.ILLEGAL_ARGUMENT);
        CHECK.same("compile " + text, want >= 0, threw);
        CHECK.same("position of " + text, want, x.position());
    }

    private static int[] randomLabels(Model.Levels levels, LabelGuard x, int side) {
        int[] labels = new int[8];
        for (int v = 0; v < 8; v++) {
            boolean end = RANDOM.nextInt(3) == 0;
            labels[v] = end ? side == 0 ? levels.bottom() : levels.top() : RANDOM.nextInt(levels.n);
            x.label(side, v, labels[v]);
        }
        return labels;
    }

    private static void compare(List<Statement> row) {
        String text = textOf(row);
        CHECK.same("the model's own: " + text, -1, Model.errorPosition(text));
        Model.Levels levels = Model.Levels.randomLattice(RANDOM);
        LabelGuard x = guard;
        x.levels(levels.n, levels.below);
        int[] entry = randomLabels(levels, x, 0);
        int[] policy = new int[8];
        Arrays.fill(policy, levels.top());
        if (RANDOM.nextInt(3) == 0) {
            policy = randomLabels(levels, x, 1);
        }
        int[] labels = labelsOf(row, levels, levels.bottom(), entry);
        List<int[]> code = new ArrayList<>();
        emitAll(row, code);
        code.add(new int[] {9, 0});
        boolean allowed = true;
        for (int v = 0; v < 8; v++) {
            allowed &= levels.notAbove(labels[v], policy[v]);
        }
        CHECK.same("compile " + text, allowed ? code.size() : Check.ILLEGAL_STATE, Check.compiled(x, text));
        for (int v = 0; v < 8; v++) {
            CHECK.same("exit " + v + " of " + text, labels[v], x.exit(v));
        }
        if (allowed) {
            StringBuilder listing = new StringBuilder();
            code.forEach(one -> listing.append(one[0]).append(':').append(one[1]).append(' '));
            CHECK.same("code of " + text, listing.toString().trim(), Check.listing(x));
            CHECK.same("verify " + text, code.size(), Check.answer(x::verify));
            for (int v = 0; v < 8; v++) {
                CHECK.same("code lets out as much as " + text, labels[v], x.found(code.size() - 1, v));
            }
        }
        for (int times = 0; times < 3; times++) {
            compareRuns(row, code.toArray(new int[0][]), x, allowed);
        }
    }

    private static int[] randomValues() {
        int[] values = new int[8];
        for (int v = 0; v < 8; v++) {
            values[v] = RANDOM.nextInt(5) == 0 ? RANDOM.nextInt() : RANDOM.nextInt(5) - 1;
        }
        return values;
    }

    private static void compareRuns(List<Statement> row, int[][] code, LabelGuard x, boolean allowed) {
        String text = textOf(row);
        int[] values = randomValues();
        int most = RANDOM.nextBoolean() ? 500 : RANDOM.nextInt(12);
        int[] meant = values.clone();
        int left = followAll(row, meant, most);
        setAll(x, values);
        CHECK.same("follow " + most + " " + text, left < 0 ? -1 : most - left, x.follow(most));
        CHECK.same("values of " + text, Arrays.toString(left < 0 ? values : meant), valuesOf(x));
        if (!allowed) {
            return;
        }
        int steps = RANDOM.nextBoolean() ? 2000 : RANDOM.nextInt(60);
        int[] ran = values.clone();
        int want = new Model.Instructions(code).run(ran, steps);
        setAll(x, values);
        CHECK.same("run " + steps + " " + text, want, Check.answer(() -> x.run(steps)));
        CHECK.same("values after " + text, Arrays.toString(want < 0 ? values : ran), valuesOf(x));
        if (want >= 0 && left >= 0) {
            CHECK.same("run and follow " + text, Arrays.toString(meant), Arrays.toString(ran));
        }
    }

    private static void setAll(LabelGuard x, int[] values) {
        for (int v = 0; v < 8; v++) {
            x.set(v, values[v]);
        }
    }

    private static String valuesOf(LabelGuard x) {
        int[] values = new int[8];
        for (int v = 0; v < 8; v++) {
            values[v] = x.get(v);
        }
        return Arrays.toString(values);
    }
}
