import java.util.ArrayList;
import java.util.Arrays;
import java.util.List;
import java.util.Random;

/** Programs as the document's terms say them, each term of each kind of part by itself, and random ones. */
final class Programs {
    private final Random random;

    Programs(Random random) {
        this.random = random;
    }

    interface Expression {
        String text();

        int label(Model.Levels levels, int[] labels);

        int value(int[] values);

        void emit(List<int[]> code);
    }

    record Constant(int number, String digits) implements Expression {
        public String text() {
            return digits;
        }

        public int label(Model.Levels levels, int[] labels) {
            return levels.bottom();
        }

        public int value(int[] values) {
            return number;
        }

        public void emit(List<int[]> code) {
            code.add(new int[] {0, number});
        }
    }

    record Name(int variable) implements Expression {
        public String text() {
            return String.valueOf((char) ('a' + variable));
        }

        public int label(Model.Levels levels, int[] labels) {
            return labels[variable];
        }

        public int value(int[] values) {
            return values[variable];
        }

        public void emit(List<int[]> code) {
            code.add(new int[] {1, variable});
        }
    }

    record Pair(Expression x, char operation, Expression y) implements Expression {
        public String text() {
            return "(" + x.text() + operation + y.text() + ")";
        }

        public int label(Model.Levels levels, int[] labels) {
            return levels.join(x.label(levels, labels), y.label(levels, labels));
        }

        public int value(int[] values) {
            return Model.calculated(operation, x.value(values), y.value(values));
        }

        public void emit(List<int[]> code) {
            x.emit(code);
            y.emit(code);
            code.add(new int[] {3 + "+-*<".indexOf(operation), 0});
        }
    }

    /** Letter = is an assignment to a variable, ? and * have one program or two. */
    record Statement(char letter, int variable, Expression e, List<Statement> first, List<Statement> second) {
        String text() {
            if (letter == '=') {
                return (char) ('a' + variable) + "=" + e.text() + ";";
            }
            String one = letter + e.text() + "{" + textOf(first) + "}";
            return letter == '*' ? one : one + "{" + textOf(second) + "}";
        }

        int[] labels(Model.Levels levels, int under, int[] before) {
            int inside = levels.join(under, e.label(levels, before));
            if (letter == '=') {
                int[] after = before.clone();
                after[variable] = inside;
                return after;
            }
            if (letter == '?') {
                return levels.join(labelsOf(first, levels, inside, before), labelsOf(second, levels, inside, before));
            }
            int[] after = levels.join(before, labelsOf(first, levels, inside, before));
            return Arrays.equals(after, before) ? before : labels(levels, under, after);
        }

        void emit(List<int[]> code) {
            int start = code.size();
            e.emit(code);
            if (letter == '=') {
                code.add(new int[] {2, variable});
                return;
            }
            int[] zero = {7, 0};
            int[] jump = {8, start};
            code.add(zero);
            emitAll(first, code);
            code.add(jump);
            zero[1] = code.size();
            if (letter == '?') {
                emitAll(second, code);
                jump[1] = code.size();
            }
        }

        /** How many looks are left, or -1 if there were too few. */
        int follow(int[] values, int left) {
            if (letter == '=') {
                values[variable] = e.value(values);
                return left;
            }
            if (left == 0) {
                return -1;
            }
            boolean yes = e.value(values) != 0;
            if (letter == '?') {
                return followAll(yes ? first : second, values, left - 1);
            }
            int after = yes ? followAll(first, values, left - 1) : left - 1;
            return yes && after >= 0 ? follow(values, after) : after;
        }
    }

    static String textOf(List<Statement> row) {
        StringBuilder out = new StringBuilder();
        row.forEach(s -> out.append(s.text()));
        return out.toString();
    }

    static int[] labelsOf(List<Statement> row, Model.Levels levels, int under, int[] before) {
        int[] labels = before;
        for (Statement s : row) {
            labels = s.labels(levels, under, labels);
        }
        return labels;
    }

    static void emitAll(List<Statement> row, List<int[]> code) {
        row.forEach(s -> s.emit(code));
    }

    static int followAll(List<Statement> row, int[] values, int most) {
        int left = most;
        for (Statement s : row) {
            left = left < 0 ? left : s.follow(values, left);
        }
        return left;
    }

    /** The program of a text that is one. */
    static List<Statement> read(String text) {
        int[] at = {0};
        return readRow(text, at);
    }

    private static List<Statement> readRow(String text, int[] at) {
        List<Statement> row = new ArrayList<>();
        while (at[0] < text.length() && text.charAt(at[0]) != '}') {
            char letter = text.charAt(at[0]++);
            if (letter == '?' || letter == '*') {
                Expression e = readExpression(text, at);
                List<Statement> first = readBlock(text, at);
                row.add(new Statement(letter, 0, e, first, letter == '?' ? readBlock(text, at) : List.of()));
            } else {
                at[0]++;
                row.add(new Statement('=', letter - 'a', readExpression(text, at), List.of(), List.of()));
                at[0]++;
            }
        }
        return row;
    }

    private static List<Statement> readBlock(String text, int[] at) {
        at[0]++;
        List<Statement> row = readRow(text, at);
        at[0]++;
        return row;
    }

    private static Expression readExpression(String text, int[] at) {
        int start = at[0]++;
        char c = text.charAt(start);
        if (c >= 'a') {
            return new Name(c - 'a');
        }
        if (c != '(') {
            while (at[0] < text.length() && Character.isDigit(text.charAt(at[0]))) {
                at[0]++;
            }
            String digits = text.substring(start, at[0]);
            return new Constant(Integer.parseInt(digits), digits);
        }
        Expression x = readExpression(text, at);
        char operation = text.charAt(at[0]++);
        Expression y = readExpression(text, at);
        at[0]++;
        return new Pair(x, operation, y);
    }

    private Expression expression(int depth, int room) {
        int pick = random.nextInt(10);
        if (pick < 4 && depth < 6 && room >= 5) {
            Expression x = expression(depth + 1, room - 4);
            Expression y = expression(depth + 1, room - 3 - x.text().length());
            return new Pair(x, "+-*<".charAt(random.nextInt(4)), y);
        }
        if (pick < 6) {
            String digits = String.valueOf(random.nextInt(3) == 0 ? random.nextInt(1000) : random.nextInt(3));
            digits = random.nextInt(9) == 0 ? "0" + digits : digits;
            digits = digits.length() > Math.min(3, room) ? "1" : digits;
            return new Constant(Integer.parseInt(digits), digits);
        }
        return new Name(random.nextInt(random.nextInt(3) == 0 ? 8 : 4));
    }

    /** A random program, at some depth, that takes no more than the room. */
    List<Statement> row(int depth, int room) {
        List<Statement> row = new ArrayList<>();
        int left = room;
        while (left >= 4 && random.nextInt(8) > 0) {
            Statement s = statement(depth, left);
            if (s == null) {
                break;
            }
            row.add(s);
            left -= s.text().length();
        }
        return row;
    }

    private Statement statement(int depth, int room) {
        int pick = random.nextInt(10);
        if (pick < 5 || depth >= 6 || room < 6) {
            return new Statement('=', random.nextInt(6), expression(depth, room - 3), List.of(), List.of());
        }
        Expression e = expression(depth, Math.min(room - 5, 9));
        List<Statement> first = row(depth + 1, (room - 5 - e.text().length()) * (1 + random.nextInt(2)) / 2);
        if (pick < 8) {
            return new Statement('*', 0, e, first, List.of());
        }
        int used = 5 + e.text().length() + textOf(first).length();
        return used > room ? null : new Statement('?', 0, e, first, row(depth + 1, room - used));
    }

    /** A text that is nearly the one given. */
    String changed(String text) {
        StringBuilder out = new StringBuilder(text);
        String letters = "abh=;?*{}()+-<0123 iz~";
        for (int times = random.nextInt(2); times >= 0; times--) {
            int at = random.nextInt(out.length() + 1);
            char c = letters.charAt(random.nextInt(letters.length()));
            int pick = random.nextInt(4);
            if (pick == 0 && at < out.length()) {
                out.deleteCharAt(at);
            } else if (pick == 1 && at < out.length()) {
                out.setCharAt(at, c);
            } else if (pick == 2) {
                out.setLength(at);
            } else if (out.length() < 72) {
                out.insert(at, c);
            }
        }
        return out.toString();
    }
}
