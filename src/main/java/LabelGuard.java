/**
 * Reads small programs, follows the secrecy of what flows in them, turns the harmless ones into code for a
 * stack, checks code of any other origin for the same, and runs what was accepted.
 */
public final class LabelGuard {
    /** Nothing there. */
    public static final int NONE = -1;

    private static final int MAX_LEVELS = 6;
    private static final int VARIABLES = 8;
    private static final int MAX_TEXT = 72;
    private static final int MAX_DEPTH = 6;
    private static final int MAX_DIGITS = 3;
    private static final int MAX_CODE = 100;
    private static final int MAX_STACK = 8;
    private static final int MAX_STEPS = 2000;
    private static final int MAX_LOOKS = 500;

    /** Every fixed point here is found in far fewer rounds: each but the last one changes one of some 10,000 things. */
    private static final int MAX_ROUNDS = 1000000;

    private static final int PUSH = 0;
    private static final int LOAD = 1;
    private static final int STORE = 2;
    private static final int ADD = 3;
    private static final int SUBTRACT = 4;
    private static final int MULTIPLY = 5;
    private static final int LESS = 6;
    private static final int ZERO = 7;
    private static final int JUMP = 8;
    private static final int END = 9;

    private static final int NUMBER = 0;
    private static final int VARIABLE = 1;
    private static final int OPERATION = 2;
    private static final int ASSIGNMENT = 3;
    private static final int CHOICE = 4;
    private static final int LOOP = 5;

    private final Lattice lattice;
    private final int[] entryLabels;
    private final int[] policyLabels;
    private final int[] values;
    private final Reader reader;
    private final ProgramLabels programLabels;
    private final Follower follower;
    private final Code instructions;
    private final Shape shape;
    private final Regions regions;
    private final CodeLabels codeLabels;
    private final Machine machine;
    private Node program;
    private boolean hasProgram;
    private int errorPosition;
    private boolean accepted;
    private boolean shapeFound;

    public LabelGuard() {
        lattice = new Lattice();
        entryLabels = new int[VARIABLES];
        policyLabels = new int[VARIABLES];
        values = new int[VARIABLES];
        reader = new Reader();
        programLabels = new ProgramLabels(lattice);
        follower = new Follower();
        instructions = new Code();
        shape = new Shape(instructions);
        regions = new Regions(instructions, shape);
        codeLabels = new CodeLabels(instructions, shape, regions, lattice);
        machine = new Machine(instructions);
        program = null;
        hasProgram = false;
        errorPosition = NONE;
        accepted = false;
        shapeFound = false;
    }

    public boolean levels(int n, long below) throws IllegalArgumentException, IllegalStateException {
        if (n < 1 || n > MAX_LEVELS) {
            throw new IllegalArgumentException("there are 1 to 6 levels");
        }
        if (!Lattice.isOrder(n, below)) {
            throw new IllegalArgumentException("this is no order");
        }
        if (!Lattice.hasAllBounds(n, below)) {
            throw new IllegalStateException("two levels have no join or no meet");
        }
        lattice.become(n, below);
        for (int v = 0; v < VARIABLES; v++) {
            entryLabels[v] = lattice.bottom();
            policyLabels[v] = lattice.top();
        }
        return true;
    }

    public int join(int a, int b) {
        return lattice.joined(a, b);
    }

    public boolean label(int side, int variable, int level) {
        if (!isVariable(variable) || !lattice.has(level)) {
            return false;
        }
        if (side == 0) {
            entryLabels[variable] = level;
            return true;
        }
        if (side == 1) {
            policyLabels[variable] = level;
            return true;
        }
        return false;
    }

    public boolean write(long w) {
        return reader.append(w);
    }

    public int compile() throws IllegalArgumentException, IllegalStateException {
        Node row = reader.takeProgram();
        errorPosition = reader.error();
        if (errorPosition != NONE) {
            throw new IllegalArgumentException("the text is no program");
        }
        program = row;
        hasProgram = true;
        programLabels.workOut(row, entryLabels);
        if (!programLabels.keepTo(policyLabels)) {
            throw new IllegalStateException("an exit label is above its policy");
        }
        instructions.become(row);
        accepted = true;
        shapeFound = false;
        return instructions.size();
    }

    public int position() {
        return errorPosition;
    }

    public int exit(int variable) {
        return hasProgram ? programLabels.exitOf(variable) : NONE;
    }

    public int code(int k, int what) {
        if (k == -1) {
            return instructions.size();
        }
        if (!instructions.has(k)) {
            return NONE;
        }
        if (what == 0) {
            return instructions.kindAt(k);
        }
        return what == 1 ? instructions.argumentAt(k) : NONE;
    }

    public void empty() {
        instructions.clear();
        forgetChecks();
    }

    public boolean put(int kind, int argument) {
        if (!instructions.add(kind, argument)) {
            return false;
        }
        forgetChecks();
        return true;
    }

    public int verify() throws IllegalArgumentException, IllegalStateException {
        forgetChecks();
        if (!shape.fits()) {
            throw new IllegalArgumentException("the code has not its shape");
        }
        shapeFound = true;
        regions.workOut();
        codeLabels.workOut(entryLabels);
        if (!codeLabels.keepTo(policyLabels)) {
            throw new IllegalStateException("the code is not safe");
        }
        accepted = true;
        return shape.reachedCount();
    }

    public int found(int k, int what) {
        return shapeFound ? codeLabels.labelAt(k, what) : NONE;
    }

    public boolean set(int variable, int value) {
        if (!isVariable(variable)) {
            return false;
        }
        values[variable] = value;
        return true;
    }

    public int get(int variable) {
        return isVariable(variable) ? values[variable] : 0;
    }

    public int run(int n) throws IllegalArgumentException, IllegalStateException {
        if (n < 0 || n > MAX_STEPS) {
            throw new IllegalArgumentException("0 to 2000 instructions can be run");
        }
        if (!accepted) {
            throw new IllegalStateException("the code is not accepted");
        }
        return machine.execute(values, n);
    }

    public int follow(int n) {
        if (!hasProgram || n < 0 || n > MAX_LOOKS) {
            return NONE;
        }
        return follower.execute(program, values, n);
    }

    private void forgetChecks() {
        accepted = false;
        shapeFound = false;
    }

    private static boolean isVariable(int variable) {
        return variable >= 0 && variable < VARIABLES;
    }

    private static boolean isOperation(int kind) {
        return kind >= ADD && kind <= LESS;
    }

    private static int operate(int kind, int x, int y) {
        switch (kind) {
            case ADD:
                return x + y;
            case SUBTRACT:
                return x - y;
            case MULTIPLY:
                return x * y;
            default:
                return x < y ? 1 : 0;
        }
    }

    /** The levels, their order and their joins. */
    private static final class Lattice {
        private final int[] joins = new int[MAX_LEVELS * MAX_LEVELS];
        private int count = 1;
        private long order = 1L;
        private int lowest = 0;
        private int highest = 0;

        private static boolean holds(long below, int a, int b) {
            return (below >>> (MAX_LEVELS * a + b) & 1L) == 1L;
        }

        static boolean isOrder(int n, long below) {
            for (int a = 0; a < n; a++) {
                if (!holds(below, a, a)) {
                    return false;
                }
                for (int b = 0; b < n; b++) {
                    if (a != b && holds(below, a, b) && (holds(below, b, a) || !passesOn(n, below, a, b))) {
                        return false;
                    }
                }
            }
            return true;
        }

        private static boolean passesOn(int n, long below, int a, int b) {
            for (int c = 0; c < n; c++) {
                if (holds(below, b, c) && !holds(below, a, c)) {
                    return false;
                }
            }
            return true;
        }

        static boolean hasAllBounds(int n, long below) {
            long above = turned(n, below);
            for (int a = 0; a < n; a++) {
                for (int b = 0; b < n; b++) {
                    if (leastAbove(n, below, a, b) == NONE || leastAbove(n, above, a, b) == NONE) {
                        return false;
                    }
                }
            }
            return true;
        }

        /** The order upside down: a meet is a join there. */
        private static long turned(int n, long below) {
            long above = 0L;
            for (int a = 0; a < n; a++) {
                for (int b = 0; b < n; b++) {
                    if (holds(below, a, b)) {
                        above |= 1L << (MAX_LEVELS * b + a);
                    }
                }
            }
            return above;
        }

        private static int leastAbove(int n, long below, int a, int b) {
            for (int c = 0; c < n; c++) {
                if (isAboveBoth(below, a, b, c) && isLeast(n, below, a, b, c)) {
                    return c;
                }
            }
            return NONE;
        }

        private static boolean isAboveBoth(long below, int a, int b, int c) {
            return holds(below, a, c) && holds(below, b, c);
        }

        private static boolean isLeast(int n, long below, int a, int b, int c) {
            for (int d = 0; d < n; d++) {
                if (isAboveBoth(below, a, b, d) && !holds(below, c, d)) {
                    return false;
                }
            }
            return true;
        }

        void become(int n, long below) {
            count = n;
            order = below;
            lowest = 0;
            highest = 0;
            for (int a = 0; a < n; a++) {
                for (int b = 0; b < n; b++) {
                    joins[MAX_LEVELS * a + b] = leastAbove(n, below, a, b);
                }
                lowest = holds(below, a, lowest) ? a : lowest;
                highest = holds(below, highest, a) ? a : highest;
            }
        }

        boolean has(int level) {
            return level >= 0 && level < count;
        }

        int bottom() {
            return lowest;
        }

        int top() {
            return highest;
        }

        boolean allows(int level, int limit) {
            return has(level) && has(limit) && holds(order, level, limit);
        }

        int joined(int a, int b) {
            return has(a) && has(b) ? joins[MAX_LEVELS * a + b] : NONE;
        }
    }

    /**
     * A part of a program. A number and a variable have a value only, an operation its two sides, a statement
     * its expression and the rows of its programs; a row is a chain of statements, null if there are none.
     */
    private static final class Node {
        final int kind;
        final int value;
        final Node expression;
        final Node first;
        final Node second;
        Node next = null;

        Node(int kind, int value, Node expression, Node first, Node second) {
            this.kind = kind;
            this.value = value;
            this.expression = expression;
            this.first = first;
            this.second = second;
        }
    }

    /** The text, and what makes a program of it. */
    private static final class Reader {
        private final int[] text = new int[MAX_TEXT];
        private int length = 0;
        private int at = 0;
        private int errorAt = NONE;

        boolean append(long w) {
            int many = 0;
            for (int shift = 56; shift >= 0; shift -= 8) {
                int c = (int) (w >>> shift & 255L);
                if (c != 0 && (c < 32 || c > 126)) {
                    return false;
                }
                many += c == 0 ? 0 : 1;
            }
            if (many > MAX_TEXT - length) {
                return false;
            }
            for (int shift = 56; shift >= 0; shift -= 8) {
                int c = (int) (w >>> shift & 255L);
                if (c != 0) {
                    text[length] = c;
                    length++;
                }
            }
            return true;
        }

        /** The row of the program, with no error; the text is empty afterwards. */
        Node takeProgram() {
            at = 0;
            errorAt = NONE;
            Node row = readRow(0);
            if (errorAt == NONE && at < length) {
                errorAt = at;
            }
            length = 0;
            return row;
        }

        int error() {
            return errorAt;
        }

        private int current() {
            return at < length ? text[at] : NONE;
        }

        private boolean skip(int c) {
            if (current() != c) {
                errorAt = at;
                return false;
            }
            at++;
            return true;
        }

        private boolean open(int c, int depth) {
            if (depth > MAX_DEPTH || current() != c) {
                errorAt = at;
                return false;
            }
            at++;
            return true;
        }

        private static boolean isName(int c) {
            return c >= 'a' && c < 'a' + VARIABLES;
        }

        private static boolean isDigit(int c) {
            return c >= '0' && c <= '9';
        }

        private boolean atStatement() {
            int c = current();
            return isName(c) || c == '?' || c == '*';
        }

        private Node readRow(int depth) {
            Node head = null;
            Node last = null;
            for (int many = 0; many < MAX_TEXT && atStatement(); many++) {
                Node statement = readStatement(depth);
                if (statement == null) {
                    return null;
                }
                if (last == null) {
                    head = statement;
                } else {
                    last.next = statement;
                }
                last = statement;
            }
            return head;
        }

        /** Null, as in all that reads but a row, means an error. */
        private Node readStatement(int depth) {
            int c = current();
            at++;
            if (c == '?') {
                return readChoice(depth);
            }
            return c == '*' ? readLoop(depth) : readAssignment(c - 'a', depth);
        }

        private Node readAssignment(int variable, int depth) {
            if (!skip('=')) {
                return null;
            }
            Node expression = readExpression(depth);
            if (expression == null || !skip(';')) {
                return null;
            }
            return new Node(ASSIGNMENT, variable, expression, null, null);
        }

        private Node readChoice(int depth) {
            Node expression = readExpression(depth);
            if (expression == null) {
                return null;
            }
            Node first = readBlock(depth + 1);
            if (errorAt != NONE) {
                return null;
            }
            Node second = readBlock(depth + 1);
            return errorAt == NONE ? new Node(CHOICE, 0, expression, first, second) : null;
        }

        private Node readLoop(int depth) {
            Node expression = readExpression(depth);
            if (expression == null) {
                return null;
            }
            Node first = readBlock(depth + 1);
            return errorAt == NONE ? new Node(LOOP, 0, expression, first, null) : null;
        }

        private Node readBlock(int depth) {
            if (!open('{', depth)) {
                return null;
            }
            Node row = readRow(depth);
            return errorAt == NONE && skip('}') ? row : null;
        }

        private Node readExpression(int depth) {
            int c = current();
            if (isDigit(c)) {
                return readNumber();
            }
            if (isName(c)) {
                at++;
                return new Node(VARIABLE, c - 'a', null, null, null);
            }
            return readBrackets(depth + 1);
        }

        private Node readNumber() {
            int number = 0;
            for (int many = 0; many < MAX_DIGITS && isDigit(current()); many++) {
                number = number * 10 + current() - '0';
                at++;
            }
            return new Node(NUMBER, number, null, null, null);
        }

        private Node readBrackets(int depth) {
            if (!open('(', depth)) {
                return null;
            }
            Node first = readExpression(depth);
            int operation = first == null ? NONE : readOperation();
            if (operation == NONE) {
                return null;
            }
            Node second = readExpression(depth);
            return second != null && skip(')') ? new Node(OPERATION, operation, null, first, second) : null;
        }

        private int readOperation() {
            int kind;
            switch (current()) {
                case '+':
                    kind = ADD;
                    break;
                case '-':
                    kind = SUBTRACT;
                    break;
                case '*':
                    kind = MULTIPLY;
                    break;
                case '<':
                    kind = LESS;
                    break;
                default:
                    errorAt = at;
                    return NONE;
            }
            at++;
            return kind;
        }
    }

    /** The labels of a program: how its variables come out. */
    private static final class ProgramLabels {
        private final Lattice lattice;
        private final int[] labels = new int[VARIABLES];
        private final int[][] before = new int[MAX_DEPTH + 1][VARIABLES];
        private final int[][] given = new int[MAX_DEPTH + 1][VARIABLES];

        ProgramLabels(Lattice lattice) {
            this.lattice = lattice;
        }

        void workOut(Node row, int[] entry) {
            System.arraycopy(entry, 0, labels, 0, VARIABLES);
            flowRow(row, lattice.bottom(), 0);
        }

        boolean keepTo(int[] policy) {
            for (int v = 0; v < VARIABLES; v++) {
                if (!lattice.allows(labels[v], policy[v])) {
                    return false;
                }
            }
            return true;
        }

        int exitOf(int variable) {
            return isVariable(variable) ? labels[variable] : NONE;
        }

        private void flowRow(Node row, int under, int depth) {
            if (depth > MAX_DEPTH) {
                return;
            }
            for (Node statement = row; statement != null; statement = statement.next) {
                if (statement.kind == CHOICE) {
                    flowChoice(statement, under, depth);
                } else if (statement.kind == LOOP) {
                    flowLoop(statement, under, depth);
                } else if (isVariable(statement.value)) {
                    labels[statement.value] = lattice.joined(under, labelOf(statement.expression, 0));
                }
            }
        }

        private void flowChoice(Node choice, int under, int depth) {
            int inside = lattice.joined(under, labelOf(choice.expression, 0));
            System.arraycopy(labels, 0, before[depth], 0, VARIABLES);
            flowRow(choice.first, inside, depth + 1);
            System.arraycopy(labels, 0, given[depth], 0, VARIABLES);
            System.arraycopy(before[depth], 0, labels, 0, VARIABLES);
            flowRow(choice.second, inside, depth + 1);
            raiseBy(given[depth]);
        }

        private void flowLoop(Node loop, int under, int depth) {
            for (int round = 0; round < MAX_ROUNDS; round++) {
                int inside = lattice.joined(under, labelOf(loop.expression, 0));
                System.arraycopy(labels, 0, before[depth], 0, VARIABLES);
                flowRow(loop.first, inside, depth + 1);
                raiseBy(before[depth]);
                if (areLabels(before[depth])) {
                    return;
                }
            }
        }

        private void raiseBy(int[] others) {
            for (int v = 0; v < VARIABLES; v++) {
                labels[v] = lattice.joined(labels[v], others[v]);
            }
        }

        private boolean areLabels(int[] others) {
            for (int v = 0; v < VARIABLES; v++) {
                if (labels[v] != others[v]) {
                    return false;
                }
            }
            return true;
        }

        private int labelOf(Node part, int depth) {
            if (part == null || depth > MAX_DEPTH) {
                return lattice.bottom();
            }
            if (part.kind == VARIABLE && isVariable(part.value)) {
                return labels[part.value];
            }
            if (part.kind == OPERATION) {
                return lattice.joined(labelOf(part.first, depth + 1), labelOf(part.second, depth + 1));
            }
            return lattice.bottom();
        }
    }

    /** Makes a program as it is meant, without its code. */
    private static final class Follower {
        private final int[] variables = new int[VARIABLES];
        private int looks = 0;
        private int mostLooks = 0;

        /** Works on a row of its own, so that what does not come to its end leaves the values alone. */
        int execute(Node row, int[] values, int most) {
            System.arraycopy(values, 0, variables, 0, VARIABLES);
            looks = 0;
            mostLooks = most;
            if (!makeRow(row, 0)) {
                return NONE;
            }
            System.arraycopy(variables, 0, values, 0, VARIABLES);
            return looks;
        }

        /** Whether it came to its end, as for all that makes. */
        private boolean makeRow(Node row, int depth) {
            if (depth > MAX_DEPTH) {
                return false;
            }
            for (Node statement = row; statement != null; statement = statement.next) {
                if (!makeStatement(statement, depth)) {
                    return false;
                }
            }
            return true;
        }

        private boolean makeStatement(Node statement, int depth) {
            if (statement.kind == CHOICE) {
                return makeChoice(statement, depth);
            }
            if (statement.kind == LOOP) {
                return makeLoop(statement, depth);
            }
            if (isVariable(statement.value)) {
                variables[statement.value] = valueOf(statement.expression, 0);
            }
            return true;
        }

        private boolean makeChoice(Node choice, int depth) {
            if (looks >= mostLooks) {
                return false;
            }
            looks++;
            return makeRow(valueOf(choice.expression, 0) != 0 ? choice.first : choice.second, depth + 1);
        }

        private boolean makeLoop(Node loop, int depth) {
            while (looks < mostLooks) {
                looks++;
                if (valueOf(loop.expression, 0) == 0) {
                    return true;
                }
                if (!makeRow(loop.first, depth + 1)) {
                    return false;
                }
            }
            return false;
        }

        private int valueOf(Node part, int depth) {
            if (part == null || depth > MAX_DEPTH) {
                return 0;
            }
            if (part.kind == VARIABLE) {
                return isVariable(part.value) ? variables[part.value] : 0;
            }
            if (part.kind == OPERATION) {
                return operate(part.value, valueOf(part.first, depth + 1), valueOf(part.second, depth + 1));
            }
            return part.value;
        }
    }

    /** The instructions, written by a program or one by one. */
    private static final class Code {
        private final int[] kinds = new int[MAX_CODE];
        private final int[] arguments = new int[MAX_CODE];
        private int count = 0;

        void clear() {
            count = 0;
        }

        boolean add(int kind, int argument) {
            if (count >= MAX_CODE) {
                return false;
            }
            kinds[count] = kind;
            arguments[count] = argument;
            count++;
            return true;
        }

        int size() {
            return count;
        }

        boolean has(int k) {
            return k >= 0 && k < count;
        }

        int kindAt(int k) {
            return has(k) ? kinds[k] : NONE;
        }

        int argumentAt(int k) {
            return has(k) ? arguments[k] : NONE;
        }

        /** Where instruction k goes on: way 0 the common one, way 1 that of a ZERO which finds 0; or NONE. */
        int nextOf(int k, int way) {
            if (!has(k)) {
                return NONE;
            }
            int kind = kinds[k];
            int next = NONE;
            if (way == 0 && kind != JUMP && kind != END) {
                next = k + 1;
            } else if (way == 0 && kind == JUMP || way == 1 && kind == ZERO) {
                next = arguments[k];
            }
            return has(next) ? next : NONE;
        }

        void become(Node row) {
            clear();
            addRow(row, 0);
            add(END, 0);
        }

        private void addRow(Node row, int depth) {
            if (depth > MAX_DEPTH) {
                return;
            }
            for (Node statement = row; statement != null; statement = statement.next) {
                int start = count;
                addExpression(statement.expression, 0);
                if (statement.kind == CHOICE) {
                    addChoice(statement, depth);
                } else if (statement.kind == LOOP) {
                    addLoop(statement, start, depth);
                } else {
                    add(STORE, statement.value);
                }
            }
        }

        private void addChoice(Node choice, int depth) {
            int zero = count;
            add(ZERO, 0);
            addRow(choice.first, depth + 1);
            int jump = count;
            add(JUMP, 0);
            aimHere(zero);
            addRow(choice.second, depth + 1);
            aimHere(jump);
        }

        private void addLoop(Node loop, int start, int depth) {
            int zero = count;
            add(ZERO, 0);
            addRow(loop.first, depth + 1);
            add(JUMP, start);
            aimHere(zero);
        }

        private void aimHere(int k) {
            if (has(k)) {
                arguments[k] = count;
            }
        }

        private void addExpression(Node part, int depth) {
            if (part == null || depth > MAX_DEPTH) {
                return;
            }
            if (part.kind == NUMBER) {
                add(PUSH, part.value);
            } else if (part.kind == VARIABLE) {
                add(LOAD, part.value);
            } else {
                addExpression(part.first, depth + 1);
                addExpression(part.second, depth + 1);
                add(part.value, 0);
            }
        }
    }

    /** Runs the instructions. */
    private static final class Machine {
        private final Code code;
        private final int[] variables = new int[VARIABLES];
        private final int[] stack = new int[MAX_STACK];
        private int height = 0;

        Machine(Code code) {
            this.code = code;
        }

        /** Works on a row of its own, so that what does not come to its END leaves the values alone. */
        int execute(int[] values, int most) {
            System.arraycopy(values, 0, variables, 0, VARIABLES);
            height = 0;
            int at = 0;
            for (int steps = 1; steps <= most; steps++) {
                if (code.kindAt(at) == END) {
                    System.arraycopy(variables, 0, values, 0, VARIABLES);
                    return steps;
                }
                at = step(at);
            }
            return NONE;
        }

        private int step(int at) {
            int kind = code.kindAt(at);
            int argument = code.argumentAt(at);
            if (kind == PUSH) {
                push(argument);
            } else if (kind == LOAD && isVariable(argument)) {
                push(variables[argument]);
            } else if (kind == STORE && isVariable(argument)) {
                variables[argument] = pop();
            } else if (isOperation(kind)) {
                int y = pop();
                int x = pop();
                push(operate(kind, x, y));
            } else if (kind == ZERO) {
                return code.nextOf(at, pop() == 0 ? 1 : 0);
            }
            return code.nextOf(at, 0);
        }

        private void push(int value) {
            if (height < MAX_STACK) {
                stack[height] = value;
                height++;
            }
        }

        private int pop() {
            if (height <= 0) {
                return 0;
            }
            height--;
            return stack[height];
        }
    }

    /** Whether the code has its shape, and which instructions are reached with how much on the stack. */
    private static final class Shape {
        private final Code code;
        private final int[] heights = new int[MAX_CODE];
        private final int[] queue = new int[MAX_CODE];
        private final boolean[] ending = new boolean[MAX_CODE];
        private int reached = 0;

        Shape(Code code) {
            this.code = code;
        }

        boolean fits() {
            return code.size() > 0 && partsFit() && waysFit() && allCanEnd();
        }

        int reachedCount() {
            return reached;
        }

        /** How much is on the stack before instruction k; NONE if it is not reached. */
        int heightAt(int k) {
            return code.has(k) ? heights[k] : NONE;
        }

        private boolean partsFit() {
            for (int k = 0; k < code.size(); k++) {
                int kind = code.kindAt(k);
                int argument = code.argumentAt(k);
                if (kind < PUSH || kind > END) {
                    return false;
                }
                if ((kind == LOAD || kind == STORE) && !isVariable(argument)) {
                    return false;
                }
                if ((kind == ZERO || kind == JUMP) && !code.has(argument)) {
                    return false;
                }
            }
            return true;
        }

        private boolean waysFit() {
            for (int k = 0; k < MAX_CODE; k++) {
                heights[k] = NONE;
            }
            heights[0] = 0;
            queue[0] = 0;
            reached = 1;
            for (int done = 0; done < MAX_CODE && done < reached; done++) {
                if (!goesOnWell(queue[done])) {
                    return false;
                }
            }
            return true;
        }

        private boolean goesOnWell(int k) {
            int kind = code.kindAt(k);
            if (kind == END) {
                return heights[k] == 0;
            }
            int after = heights[k] - taken(kind) + given(kind);
            if (heights[k] < taken(kind) || after > MAX_STACK || code.nextOf(k, 0) == NONE) {
                return false;
            }
            return comesTo(code.nextOf(k, 0), after) && (kind != ZERO || comesTo(code.nextOf(k, 1), after));
        }

        private boolean comesTo(int k, int height) {
            if (!code.has(k)) {
                return false;
            }
            if (heights[k] == NONE && reached < MAX_CODE) {
                heights[k] = height;
                queue[reached] = k;
                reached++;
            }
            return heights[k] == height;
        }

        private static int taken(int kind) {
            if (isOperation(kind)) {
                return 2;
            }
            return kind == STORE || kind == ZERO ? 1 : 0;
        }

        private static int given(int kind) {
            return kind == PUSH || kind == LOAD || isOperation(kind) ? 1 : 0;
        }

        private boolean allCanEnd() {
            for (int k = 0; k < MAX_CODE; k++) {
                ending[k] = false;
            }
            int many = 0;
            int more = 1;
            for (int round = 0; round < MAX_CODE && more > 0; round++) {
                more = findEnding();
                many += more;
            }
            return many == reached;
        }

        /** One look over all from behind: how many more are found that can come to an END. */
        private int findEnding() {
            int many = 0;
            for (int k = code.size() - 1; k >= 0; k--) {
                if (heights[k] != NONE && !ending[k] && canEnd(k)) {
                    ending[k] = true;
                    many++;
                }
            }
            return many;
        }

        private boolean canEnd(int k) {
            return code.kindAt(k) == END || isEnding(code.nextOf(k, 0)) || isEnding(code.nextOf(k, 1));
        }

        private boolean isEnding(int k) {
            return code.has(k) && ending[k];
        }
    }

    /** For each instruction a set of instructions. */
    private static final class Marks {
        private final long[] low = new long[MAX_CODE];
        private final long[] high = new long[MAX_CODE];

        private static long lowBit(int member) {
            return member < 64 ? 1L << member : 0L;
        }

        private static long highBit(int member) {
            return member < 64 ? 0L : 1L << (member - 64);
        }

        private static boolean isPlace(int k) {
            return k >= 0 && k < MAX_CODE;
        }

        boolean has(int row, int member) {
            return isPlace(row) && isPlace(member)
                    && (low[row] & lowBit(member) | high[row] & highBit(member)) != 0L;
        }

        void add(int row, int member) {
            if (isPlace(row) && isPlace(member)) {
                low[row] |= lowBit(member);
                high[row] |= highBit(member);
            }
        }

        void refill(int row, boolean full) {
            if (isPlace(row)) {
                low[row] = full ? -1L : 0L;
                high[row] = full ? -1L : 0L;
            }
        }

        /** Keeps of a row its own number and what another row has too: whether that changed it. */
        boolean narrow(int row, int other) {
            if (!isPlace(row) || !isPlace(other)) {
                return false;
            }
            long newLow = low[row] & (low[other] | lowBit(row));
            long newHigh = high[row] & (high[other] | highBit(row));
            boolean changed = newLow != low[row] || newHigh != high[row];
            low[row] = newLow;
            high[row] = newHigh;
            return changed;
        }
    }

    /** The regions of each ZERO of code that has its shape. */
    private static final class Regions {
        private final Code code;
        private final Shape shape;
        private final Marks passed = new Marks();
        private final Marks members = new Marks();
        private final int[] queue = new int[MAX_CODE];
        private int queued = 0;

        Regions(Code code, Shape shape) {
            this.code = code;
            this.shape = shape;
        }

        void workOut() {
            findPassed();
            for (int k = 0; k < code.size(); k++) {
                members.refill(k, false);
                if (shape.heightAt(k) != NONE && code.kindAt(k) == ZERO) {
                    collect(k);
                }
            }
        }

        boolean has(int zero, int k) {
            return members.has(zero, k);
        }

        /** What all ways to an END come through: at first all, then less, as long as a next one takes some away. */
        private void findPassed() {
            for (int k = 0; k < code.size(); k++) {
                boolean isEnd = code.kindAt(k) == END;
                passed.refill(k, !isEnd);
                passed.add(k, k);
            }
            boolean changed = true;
            for (int round = 0; round < MAX_ROUNDS && changed; round++) {
                changed = narrowAll();
            }
        }

        private boolean narrowAll() {
            boolean changed = false;
            for (int k = code.size() - 1; k >= 0; k--) {
                if (shape.heightAt(k) != NONE) {
                    changed |= passed.narrow(k, code.nextOf(k, 0));
                    changed |= passed.narrow(k, code.nextOf(k, 1));
                }
            }
            return changed;
        }

        private void collect(int zero) {
            queued = 0;
            visitNext(zero, zero);
            for (int done = 0; done < MAX_CODE && done < queued; done++) {
                visitNext(zero, queue[done]);
            }
        }

        private void visitNext(int zero, int k) {
            visit(zero, code.nextOf(k, 0));
            visit(zero, code.nextOf(k, 1));
        }

        private void visit(int zero, int k) {
            if (!code.has(k) || members.has(zero, k) || k != zero && passed.has(zero, k)) {
                return;
            }
            members.add(zero, k);
            if (queued < MAX_CODE) {
                queue[queued] = k;
                queued++;
            }
        }
    }

    /** The labels of code that has its shape, a row of them for each instruction, as found asks for them. */
    private static final class CodeLabels {
        private static final int CONTEXT = VARIABLES;
        private static final int STACK = VARIABLES + 1;
        private static final int WIDTH = STACK + MAX_STACK;

        private final Code code;
        private final Shape shape;
        private final Regions regions;
        private final Lattice lattice;
        private final int[][] labels = new int[MAX_CODE][WIDTH];
        private final boolean[] waiting = new boolean[MAX_CODE];
        private final int[] left = new int[WIDTH];

        CodeLabels(Code code, Shape shape, Regions regions, Lattice lattice) {
            this.code = code;
            this.shape = shape;
            this.regions = regions;
            this.lattice = lattice;
        }

        /** All labels are lowest at first and are raised only as far as they must be, so they end as the least. */
        void workOut(int[] entry) {
            for (int k = 0; k < code.size(); k++) {
                for (int what = 0; what < WIDTH; what++) {
                    labels[k][what] = lattice.bottom();
                }
                waiting[k] = shape.heightAt(k) != NONE;
            }
            for (int v = 0; v < VARIABLES; v++) {
                raise(0, v, entry[v]);
            }
            boolean again = true;
            for (int round = 0; round < MAX_ROUNDS && again; round++) {
                again = false;
                for (int k = 0; k < code.size(); k++) {
                    if (waiting[k]) {
                        pass(k);
                        again = true;
                    }
                }
            }
        }

        boolean keepTo(int[] policy) {
            for (int k = 0; k < code.size(); k++) {
                boolean ends = shape.heightAt(k) != NONE && code.kindAt(k) == END;
                for (int v = 0; v < VARIABLES && ends; v++) {
                    if (!lattice.allows(labels[k][v], policy[v])) {
                        return false;
                    }
                }
            }
            return true;
        }

        int labelAt(int k, int what) {
            int height = shape.heightAt(k);
            if (height == NONE || what < 0 || what >= STACK + height || what >= WIDTH) {
                return NONE;
            }
            return labels[k][what];
        }

        private void pass(int k) {
            waiting[k] = false;
            System.arraycopy(labels[k], 0, left, 0, WIDTH);
            change(code.kindAt(k), code.argumentAt(k), shape.heightAt(k));
            if (code.kindAt(k) == ZERO) {
                raiseRegion(k);
            }
            comeTo(code.nextOf(k, 0));
            comeTo(code.nextOf(k, 1));
        }

        /** Makes of what an instruction finds what it leaves. */
        private void change(int kind, int argument, int height) {
            int free = STACK + height;
            int context = left[CONTEXT];
            if (kind == PUSH && free < WIDTH) {
                left[free] = context;
            } else if (kind == LOAD && free < WIDTH && isVariable(argument)) {
                left[free] = lattice.joined(context, left[argument]);
            } else if (kind == STORE && height >= 1 && isVariable(argument)) {
                left[argument] = lattice.joined(context, left[free - 1]);
            } else if (isOperation(kind) && height >= 2) {
                int made = lattice.joined(left[free - 2], left[free - 1]);
                left[free - 2] = lattice.joined(context, made);
            }
        }

        private void raiseRegion(int zero) {
            int uppermost = STACK + shape.heightAt(zero) - 1;
            if (uppermost < STACK || uppermost >= WIDTH) {
                return;
            }
            int level = labels[zero][uppermost];
            for (int k = 0; k < code.size(); k++) {
                if (regions.has(zero, k)) {
                    raise(k, CONTEXT, level);
                }
            }
        }

        private void comeTo(int k) {
            if (!code.has(k)) {
                return;
            }
            int end = STACK + shape.heightAt(k);
            for (int what = 0; what < end && what < WIDTH; what++) {
                if (what != CONTEXT) {
                    raise(k, what, left[what]);
                }
            }
        }

        private void raise(int k, int what, int level) {
            int joined = lattice.joined(labels[k][what], level);
            if (joined != labels[k][what]) {
                labels[k][what] = joined;
                waiting[k] = true;
            }
        }
    }
}
