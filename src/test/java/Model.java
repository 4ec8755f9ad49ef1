import java.util.ArrayDeque;
import java.util.ArrayList;
import java.util.Arrays;
import java.util.BitSet;
import java.util.Deque;
import java.util.HashSet;
import java.util.List;
import java.util.Random;
import java.util.Set;

/** The document's terms once more, each as plainly and as wastefully as it is worded, for the random tests. */
final class Model {
    /** Levels with their order, straight from the bits. */
    static final class Levels {
        final int n;
        final long below;

        Levels(int n, long below) {
            this.n = n;
            this.below = below;
        }

        boolean notAbove(int a, int b) {
            return (below & 1L << (6 * a + b)) != 0;
        }

        boolean isOrder() {
            for (int a = 0; a < n; a++) {
                for (int b = 0; b < n; b++) {
                    for (int c = 0; c < n; c++) {
                        boolean passesOn = !notAbove(a, b) || !notAbove(b, c) || notAbove(a, c);
                        boolean differs = a == b || !notAbove(a, b) || !notAbove(b, a);
                        if (!notAbove(a, a) || !passesOn || !differs) {
                            return false;
                        }
                    }
                }
            }
            return true;
        }

        int join(int a, int b) {
            List<Integer> upper = new ArrayList<>();
            for (int c = 0; c < n; c++) {
                if (notAbove(a, c) && notAbove(b, c)) {
                    upper.add(c);
                }
            }
            return upper.stream().filter(c -> upper.stream().allMatch(d -> notAbove(c, d))).findFirst().orElse(-1);
        }

        int meet(int a, int b) {
            List<Integer> lower = new ArrayList<>();
            for (int c = 0; c < n; c++) {
                if (notAbove(c, a) && notAbove(c, b)) {
                    lower.add(c);
                }
            }
            return lower.stream().filter(c -> lower.stream().allMatch(d -> notAbove(d, c))).findFirst().orElse(-1);
        }

        boolean hasAllBounds() {
            for (int a = 0; a < n; a++) {
                for (int b = 0; b < n; b++) {
                    if (join(a, b) < 0 || meet(a, b) < 0) {
                        return false;
                    }
                }
            }
            return true;
        }

        int bottom() {
            int low = 0;
            for (int a = 1; a < n; a++) {
                low = meet(low, a);
            }
            return low;
        }

        int top() {
            int high = 0;
            for (int a = 1; a < n; a++) {
                high = join(high, a);
            }
            return high;
        }

        int[] join(int[] one, int[] other) {
            int[] all = one.clone();
            for (int i = 0; i < all.length; i++) {
                all[i] = join(all[i], other[i]);
            }
            return all;
        }

        /** A random relation of an order, sometimes with a bit turned, sometimes with bits that mean nothing. */
        static Levels random(Random random) {
            int n = 1 + random.nextInt(6);
            long below = 0;
            List<Integer> ranks = new ArrayList<>();
            for (int a = 0; a < n; a++) {
                ranks.add(a);
            }
            java.util.Collections.shuffle(ranks, random);
            int density = random.nextInt(101);
            boolean ends = random.nextInt(5) > 0;
            boolean[][] less = new boolean[n][n];
            for (int a = 0; a < n; a++) {
                for (int b = a; b < n; b++) {
                    less[a][b] = a == b || random.nextInt(100) < density || ends && (a == 0 || b == n - 1);
                }
            }
            for (int b = 0; b < n; b++) {
                for (int a = 0; a < n; a++) {
                    for (int c = 0; c < n; c++) {
                        less[a][c] |= less[a][b] && less[b][c];
                    }
                }
            }
            for (int a = 0; a < n; a++) {
                for (int b = 0; b < n; b++) {
                    below |= less[a][b] ? 1L << (6 * ranks.get(a) + ranks.get(b)) : 0;
                }
            }
            if (random.nextInt(4) == 0) {
                below ^= 1L << (6 * random.nextInt(n) + random.nextInt(n));
            }
            for (int a = 0; a < 6; a++) {
                for (int b = 0; b < 6; b++) {
                    below |= (a >= n || b >= n) && random.nextBoolean() ? 1L << (6 * a + b) : 0;
                }
            }
            return new Levels(n, random.nextBoolean() ? below | random.nextLong() << 36 : below);
        }

        static Levels randomLattice(Random random) {
            while (true) {
                Levels some = random(random);
                if (some.isOrder() && some.hasAllBounds()) {
                    return some;
                }
            }
        }
    }

    /** Code, checked by looking at ways, one by one. */
    static final class Instructions {
        final int[][] code;
        final int[] heights;
        boolean fits;
        int[][] variables;
        int[][] stacks;
        int[] contexts;

        Instructions(int[][] code) {
            this.code = code;
            heights = new int[code.length];
            Arrays.fill(heights, -1);
            fits = findShape();
        }

        List<Integer> next(int k) {
            int kind = code[k][0];
            if (kind == 9) {
                return List.of();
            }
            if (kind == 8) {
                return List.of(code[k][1]);
            }
            return kind == 7 ? List.of(code[k][1], k + 1) : List.of(k + 1);
        }

        private boolean findShape() {
            if (code.length == 0) {
                return false;
            }
            for (int[] one : code) {
                boolean wrongKind = one[0] < 0 || one[0] > 9;
                boolean wrongVariable = (one[0] == 1 || one[0] == 2) && (one[1] < 0 || one[1] > 7);
                boolean wrongPlace = (one[0] == 7 || one[0] == 8) && (one[1] < 0 || one[1] >= code.length);
                if (wrongKind || wrongVariable || wrongPlace) {
                    return false;
                }
            }
            Set<Integer> seen = new HashSet<>();
            Deque<Integer> open = new ArrayDeque<>(List.of(0));
            while (!open.isEmpty()) {
                int state = open.pop();
                if (!seen.add(state)) {
                    continue;
                }
                int k = state / 100;
                int height = state % 100;
                if (k >= code.length || heights[k] >= 0 && heights[k] != height) {
                    return false;
                }
                heights[k] = height;
                int takes = new int[] {0, 0, 1, 2, 2, 2, 2, 1, 0, 0}[code[k][0]];
                int gives = new int[] {1, 1, 0, 1, 1, 1, 1, 0, 0, 0}[code[k][0]];
                int after = height - takes + gives;
                if (takes > height || after > 8 || code[k][0] == 9 && height > 0) {
                    return false;
                }
                for (int n : next(k)) {
                    open.push(n * 100 + after);
                }
            }
            for (int k = 0; k < code.length; k++) {
                if (heights[k] >= 0 && !canEnd(k, -1)) {
                    return false;
                }
            }
            return true;
        }

        int reached() {
            return (int) Arrays.stream(heights).filter(h -> h >= 0).count();
        }

        /** Whether a way leads from one to an END without coming through another. */
        private boolean canEnd(int from, int without) {
            BitSet seen = new BitSet();
            Deque<Integer> open = new ArrayDeque<>(List.of(from));
            while (!open.isEmpty()) {
                int k = open.pop();
                if (k == without || seen.get(k)) {
                    continue;
                }
                seen.set(k);
                if (code[k][0] == 9) {
                    return true;
                }
                open.addAll(next(k));
            }
            return false;
        }

        BitSet region(int zero) {
            BitSet members = new BitSet();
            Deque<Integer> open = new ArrayDeque<>(next(zero));
            while (!open.isEmpty()) {
                int k = open.pop();
                if (members.get(k) || k != zero && !canEnd(zero, k)) {
                    continue;
                }
                members.set(k);
                open.addAll(next(k));
            }
            return members;
        }

        void findLabels(Levels levels, int[] entry) {
            int bottom = levels.bottom();
            int many = code.length;
            variables = new int[many][8];
            stacks = new int[many][];
            contexts = new int[many];
            BitSet[] regions = new BitSet[many];
            for (int k = 0; k < many; k++) {
                Arrays.fill(variables[k], bottom);
                stacks[k] = new int[Math.max(0, heights[k])];
                Arrays.fill(stacks[k], bottom);
                contexts[k] = bottom;
                regions[k] = heights[k] >= 0 && code[k][0] == 7 ? region(k) : new BitSet();
            }
            variables[0] = entry.clone();
            String before = "";
            while (!before.equals(state())) {
                before = state();
                for (int k = many - 1; k >= 0; k--) {
                    if (heights[k] >= 0) {
                        contexts[k] = bottom;
                        for (int zero = 0; zero < many; zero++) {
                            if (regions[zero].get(k)) {
                                contexts[k] = levels.join(contexts[k], stacks[zero][heights[zero] - 1]);
                            }
                        }
                        leave(levels, k);
                    }
                }
            }
        }

        private String state() {
            return Arrays.deepToString(variables) + Arrays.deepToString(stacks) + Arrays.toString(contexts);
        }

        private void leave(Levels levels, int k) {
            int[] leftVariables = variables[k].clone();
            Deque<Integer> stack = new ArrayDeque<>();
            for (int label : stacks[k]) {
                stack.push(label);
            }
            int kind = code[k][0];
            if (kind == 0) {
                stack.push(contexts[k]);
            } else if (kind == 1) {
                stack.push(levels.join(contexts[k], variables[k][code[k][1]]));
            } else if (kind == 2) {
                leftVariables[code[k][1]] = levels.join(contexts[k], stack.pop());
            } else if (kind <= 6) {
                stack.push(levels.join(contexts[k], levels.join(stack.pop(), stack.pop())));
            } else if (kind == 7) {
                stack.pop();
            }
            int[] leftStack = new int[stack.size()];
            for (int i = leftStack.length - 1; i >= 0; i--) {
                leftStack[i] = stack.pop();
            }
            for (int n : next(k)) {
                variables[n] = levels.join(variables[n], leftVariables);
                stacks[n] = levels.join(stacks[n], leftStack);
            }
        }

        boolean isSafe(Levels levels, int[] policy) {
            for (int k = 0; k < code.length; k++) {
                for (int v = 0; v < 8; v++) {
                    if (heights[k] >= 0 && code[k][0] == 9 && !levels.notAbove(variables[k][v], policy[v])) {
                        return false;
                    }
                }
            }
            return true;
        }

        int found(int k, int what) {
            if (k < 0 || k >= code.length || heights[k] < 0 || what < 0 || what >= 9 + heights[k]) {
                return -1;
            }
            if (what < 8) {
                return variables[k][what];
            }
            return what == 8 ? contexts[k] : stacks[k][what - 9];
        }

        /** How many instructions to END, or -1; the values change as they do. */
        int run(int[] values, int most) {
            Deque<Integer> stack = new ArrayDeque<>();
            int at = 0;
            for (int steps = 1; steps <= most; steps++) {
                int argument = code[at][1];
                int go = at + 1;
                switch (code[at][0]) {
                    case 0 -> stack.push(argument);
                    case 1 -> stack.push(values[argument]);
                    case 2 -> values[argument] = stack.pop();
                    case 7 -> go = stack.pop() == 0 ? argument : go;
                    case 8 -> go = argument;
                    case 9 -> {
                        return steps;
                    }
                    default -> {
                        int y = stack.pop();
                        int x = stack.pop();
                        stack.push(calculated("+-*<".charAt(code[at][0] - 3), x, y));
                    }
                }
                at = go;
            }
            return -1;
        }
    }

    static int calculated(char operation, int x, int y) {
        return switch (operation) {
            case '+' -> x + y;
            case '-' -> x - y;
            case '*' -> (int) ((long) x * y);
            default -> x < y ? 1 : 0;
        };
    }

    /**
     * The position of a text's error, or -1: a stack of what must still come. R is the rest of a row, E an
     * expression, O an operation, 1 and 2 are up to that many digits more; others stand for themselves.
     */
    static int errorPosition(String text) {
        Deque<Character> due = new ArrayDeque<>(List.of('R'));
        int depth = 0;
        for (int at = 0; at < text.length(); at++) {
            char c = text.charAt(at);
            boolean name = c >= 'a' && c <= 'h';
            boolean taken = false;
            while (!taken) {
                if (due.isEmpty()) {
                    return at;
                }
                char top = due.pop();
                taken = true;
                if (top == 'R' && (name || c == '?' || c == '*')) {
                    pushAll(due, name ? "=E;R" : c == '?' ? "E{R}{R}R" : "E{R}R");
                } else if (top == 'R') {
                    taken = false;
                } else if (top == 'E' && Character.isDigit(c)) {
                    due.push('2');
                } else if (top == 'E' && c == '(' && depth < 6) {
                    depth++;
                    pushAll(due, "EOE)");
                } else if (top == '1' || top == '2') {
                    taken = Character.isDigit(c);
                    if (taken && top == '2') {
                        due.push('1');
                    }
                } else if (top == '{' && c == '{' && depth < 6) {
                    depth++;
                } else if ((top == '}' || top == ')') && c == top) {
                    depth--;
                } else if (!(top == 'E' && name || top == 'O' && "+-*<".indexOf(c) >= 0
                        || (top == '=' || top == ';') && c == top)) {
                    return at;
                }
            }
        }
        due.removeIf(c -> c == '1' || c == '2');
        return due.size() == 1 && due.peek() == 'R' ? -1 : text.length();
    }

    private static void pushAll(Deque<Character> due, String what) {
        for (int i = what.length() - 1; i >= 0; i--) {
            due.push(what.charAt(i));
        }
    }

    private Model() {
    }
}
