import java.util.Arrays;
import java.util.Set;
import java.util.function.Consumer;
import java.util.function.Function;

/** The boundary cases of code: "Terms" on it, and promises 9 to 13, sentence by sentence. */
public final class CodeBoundariesTest {
    private static final Check CHECK = new Check();
    private static final Twins TWINS = new Twins(CHECK);
    private static final String NO = Check.ILLEGAL_ARGUMENT;
    private static final int MIN = Integer.MIN_VALUE;
    private static final int MAX = Integer.MAX_VALUE;
    private static final long TWO = Check.order(2, 1);
    /** 4 below all, 1 above all, 0, 2 and 3 beside one another. */
    private static final long SHUFFLED = Check.order(5, 40, 42, 43, 41, 1, 21, 31);
    /** How many each kind takes off. */
    private static final int[] TAKES = {0, 0, 1, 2, 2, 2, 2, 1, 0, 0};

    public static void main(String[] args) {
        codeOfNoInstruction();
        codeOfNoWhat();
        howManyThereAre();
        emptyTakesTheCodeAlone();
        putTakesAnyKindAndArgument();
        putTakes100();
        putBehindAProgram();
        putThatIsRefusedChangesNothing();
        putChangesTheCode();
        emptyCodeHasNoShape();
        kindsAre0To9();
        variablesAre0To7();
        argumentsAreNumbersOfInstructions();
        otherArgumentsMeanNothing();
        nothingGoesOnBehindTheLast();
        oneHeightOnly();
        atLeastAsMuchAsItTakesOff();
        atMost8ComeAfterIt();
        endWithAnEmptyStack();
        fromEachAnEndCanBeReached();
        whatIsNotReachedMayDoAnything();
        howManyAreReached();
        regionsEndWhereAllWaysMeet();
        regionsOfALoop();
        regionsOfOtherCodeAreGone();
        regionsAnywhereInTheCode();
        contextIsBottomInNoRegion();
        contextsOfTwoAreJoined();
        instruction0HasAtLeastTheEntryLabels();
        whatIsLeftIsJoined();
        labelsGoRoundAsOftenAsTheyChange();
        whatIsPutOnHasTheJoin();
        labelsOfEightOnTheStack();
        whatStaysOnTheStackKeepsItsLabel();
        safeIsNotAboveThePolicy();
        safeAtEachEndThatIsReached();
        verifyThatThrowsAcceptsNothing();
        verifyFindsLabelsAndChangesNoOther();
        acceptedAsLongAsItIsNotChanged();
        labelsSetAgainChangeNothingElse();
        foundOfNoInstruction();
        foundOfNoWhat();
        foundOfWhatIsNotReached();
        foundNeedsTheShape();
        foundOfChangedCode();
        CHECK.end();
    }

    private static LabelGuard coded(int... kindsAndArguments) {
        LabelGuard x = new LabelGuard();
        Check.putAll(x, kindsAndArguments);
        return x;
    }

    private static void shaped(String what, Object want, int... kindsAndArguments) {
        LabelGuard x = coded(kindsAndArguments);
        String told = what + ": " + Arrays.toString(kindsAndArguments);
        CHECK.due("verify " + told, want, x::verify);
        CHECK.due("verify again " + told, want, x::verify);
        boolean fits = !want.equals(NO);
        CHECK.due("found " + told, fits ? 0 : -1, () -> x.found(0, 8));
        CHECK.due("run " + told, fits ? "-1" : Check.ILLEGAL_STATE, () -> x.run(0));
    }

    /** A row of instructions, and more of them behind it. */
    private static int[] with(int[] code, int... more) {
        int[] all = Arrays.copyOf(code, code.length + more.length);
        System.arraycopy(more, 0, all, code.length, more.length);
        return all;
    }

    /** As many of one instruction. */
    private static int[] times(int many, int kind, int argument) {
        int[] code = new int[2 * many];
        for (int k = 0; k < many; k++) {
            code[2 * k] = kind;
            code[2 * k + 1] = argument;
        }
        return code;
    }

    /** As many JUMPs, each to the next. */
    private static int[] steps(int many) {
        int[] code = times(many, 8, 0);
        for (int k = 0; k < many; k++) {
            code[2 * k + 1] = k + 1;
        }
        return code;
    }

    /** "NONE if there is no such one". */
    private static void codeOfNoInstruction() {
        int[] counts = {0, 1, 2, 63, 64, 65, 99, 100};
        for (int count : counts) {
            LabelGuard x = coded(times(count, 6, 5));
            int[] none = {-2, count, count + 1, 100, 101, MIN, MAX};
            for (int k : none) {
                CHECK.due("kind of " + k + " of " + count, -1, () -> x.code(k, 0));
                CHECK.due("argument of " + k + " of " + count, -1, () -> x.code(k, 1));
            }
            if (count > 0) {
                CHECK.due("the first", "6 5", () -> x.code(0, 0) + " " + x.code(0, 1));
                CHECK.due("the last", "6 5", () -> x.code(count - 1, 0) + " " + x.code(count - 1, 1));
            }
        }
        LabelGuard x = coded(times(100, 6, 5));
        CHECK.due("a program", 1, x::compile);
        CHECK.due("nothing behind its code", "-1 -1", () -> x.code(1, 0) + " " + x.code(99, 1));
        TWINS.refusedAlways("code 100", -1, y -> y.code(100, 0));
    }

    /** "NONE if there is no such ... what". */
    private static void codeOfNoWhat() {
        LabelGuard x = coded(9, 9, 9, 9);
        int[] none = {-1, 2, 3, MIN, MAX};
        for (int what : none) {
            CHECK.due("what " + what + " of the first", -1, () -> x.code(0, what));
            CHECK.due("what " + what + " of the last", -1, () -> x.code(1, what));
            CHECK.due("what " + what + " of none", -1, () -> x.code(2, what));
            TWINS.refusedAlways("code 0 " + what, -1, y -> y.code(0, what));
        }
    }

    /** "How many there are if k is -1": nothing is said of what then. */
    private static void howManyThereAre() {
        LabelGuard x = new LabelGuard();
        for (int count = 0; count <= 100; count++) {
            CHECK.due("how many of " + count, count, () -> x.code(-1, 0));
            CHECK.due("how many, what 1", count, () -> x.code(-1, 1));
            x.put(9, 0);
        }
        CHECK.due("not more", 100, () -> x.code(-1, 0));
        x.empty();
        CHECK.due("none", 0, () -> x.code(-1, 0));
    }

    private static Object emptied(LabelGuard x) {
        x.empty();
        return "done";
    }

    /** "The code becomes empty": with it goes that it was accepted, and its labels, but nothing else. */
    private static void emptyTakesTheCodeAlone() {
        Function<LabelGuard, Object> empty = CodeBoundariesTest::emptied;
        TWINS.refused("empty of none", "done", Twins.STATES.get("new"), empty);
        TWINS.changed("empty (compiled)", "done", Twins.STATES.get("compiled"), empty, Set.of("code", "run"));
        TWINS.changed("empty (verified)", "done", Twins.STATES.get("verified"), empty, Set.of("code", "run", "found"));
        TWINS.changed("empty (unsafe)", "done", Twins.STATES.get("unsafe"), empty, Set.of("code", "found"));
        TWINS.changed("empty (shapeless)", "done", Twins.STATES.get("shapeless"), empty, Set.of("code"));
        TWINS.changed("empty (full)", "done", Twins.STATES.get("full"), empty,
                Set.of("code", "run", "found", "found from 20 on", "found from 80 on"));
        LabelGuard x = coded(9, 0);
        x.verify();
        x.empty();
        x.empty();
        CHECK.due("empty twice", 0, () -> x.code(-1, 0));
        CHECK.due("verify", NO, x::verify);
        x.put(9, 0);
        CHECK.due("the same again is not accepted", Check.ILLEGAL_STATE, () -> x.run(1));
    }

    /** "An instruction at the end of the code, any kind and argument: true". */
    private static void putTakesAnyKindAndArgument() {
        int[] some = {0, 1, 9, 10, -1, 100, MIN, MAX};
        LabelGuard x = new LabelGuard();
        int at = 0;
        for (int kind : some) {
            for (int argument : some) {
                int k = at;
                CHECK.due("put " + kind + " " + argument, true, () -> x.put(kind, argument));
                CHECK.due("it is " + k, kind + " " + argument, () -> x.code(k, 0) + " " + x.code(k, 1));
                at++;
            }
        }
        CHECK.due("all of them", 64, () -> x.code(-1, 0));
    }

    /** "false if there are 100". */
    private static void putTakes100() {
        LabelGuard x = new LabelGuard();
        for (int round = 0; round < 2; round++) {
            for (int k = 0; k < 102; k++) {
                int argument = k + round;
                CHECK.due("put " + k, k < 100, () -> x.put(9, argument));
            }
            int last = 99 + round;
            CHECK.due("the last one", last, () -> x.code(99, 1));
            CHECK.due("it ends there", -1, () -> x.code(100, 0));
            x.empty();
        }
    }

    /** "at the end of the code", also of a program's, which counts for the 100. */
    private static void putBehindAProgram() {
        LabelGuard x = new LabelGuard();
        CHECK.same("the longest code of a program", 55, Check.compiled(x, "*a{}".repeat(18)));
        for (int k = 55; k <= 100; k++) {
            CHECK.due("put " + k, k < 100, () -> x.put(9, 0));
        }
        CHECK.due("the program's last one", "9 0", () -> x.code(54, 0) + " " + x.code(54, 1));
        CHECK.due("verify", 55, x::verify);
    }

    /** "false if there are 100": then nothing is changed, so what was accepted and found still is. */
    private static void putThatIsRefusedChangesNothing() {
        Consumer<LabelGuard> full = x -> {
            Twins.STATES.get("full").accept(x);
            Check.writeAll(x, "a=1;b=");
        };
        TWINS.refused("put 101", false, full, x -> x.put(9, 0));
        TWINS.refused("put 101, no kind", false, full, x -> x.put(-1, MIN));
        LabelGuard x = new LabelGuard();
        full.accept(x);
        CHECK.due("refused", false, () -> x.put(0, 0));
        CHECK.due("accepted still", 99, () -> x.run(99));
        CHECK.due("found still", 2, () -> x.found(98, 1));
    }

    /** The code is changed by what is put behind it, be that reached or not. */
    private static void putChangesTheCode() {
        TWINS.changed("put (new)", true, Twins.STATES.get("new"), x -> x.put(9, 0), Set.of("code"));
        TWINS.changed("put (compiled)", true, Twins.STATES.get("compiled"), x -> x.put(9, 0), Set.of("code", "run"));
        TWINS.changed("put (verified)", true, Twins.STATES.get("verified"), x -> x.put(9, 0),
                Set.of("code", "run", "found"));
        TWINS.changed("put (unsafe)", true, Twins.STATES.get("unsafe"), x -> x.put(-1, 7), Set.of("code", "found"));
    }

    /** "CODE HAS ITS SHAPE if it is not empty". */
    private static void emptyCodeHasNoShape() {
        shaped("empty", NO);
        shaped("not empty", 1, 9, 0);
        TWINS.refused("verify none", NO, Twins.STATES.get("new"), LabelGuard::verify);
    }

    /** "the kinds are 0 .. 9", of those that are not reached too. */
    private static void kindsAre0To9() {
        for (int kind = 0; kind <= 9; kind++) {
            shaped("kind " + kind + " not reached", 1, 9, 0, kind, 0);
        }
        int[] none = {-1, 10, MIN, MAX};
        for (int kind : none) {
            shaped("kind " + kind, NO, kind, 0, 9, 0);
            shaped("kind " + kind + " alone", NO, kind, 0);
            shaped("kind " + kind + " not reached", NO, 9, 0, kind, 0);
            shaped("kind " + kind + " at 99", NO, with(times(99, 9, 0), kind, 0));
        }
    }

    /** "variables 0 .. 7", of those that are not reached too. */
    private static void variablesAre0To7() {
        for (int v = 0; v <= 7; v++) {
            shaped("LOAD and STORE " + v, 3, 1, v, 2, v, 9, 0);
        }
        int[] none = {-1, 8, MIN, MAX};
        for (int v : none) {
            shaped("LOAD " + v, NO, 1, v, 2, 0, 9, 0);
            shaped("STORE " + v, NO, 1, 0, 2, v, 9, 0);
            shaped("LOAD " + v + " not reached", NO, 9, 0, 1, v);
            shaped("STORE " + v + " not reached", NO, 9, 0, 2, v);
        }
    }

    /** "the arguments of 7 and 8 numbers of instructions", of those that are not reached too. */
    private static void argumentsAreNumbersOfInstructions() {
        shaped("JUMP to the last", 2, 8, 2, 9, 0, 9, 0);
        shaped("JUMP to the first", 4, 1, 0, 7, 3, 8, 0, 9, 0);
        shaped("ZERO to the last", 4, 0, 0, 7, 3, 9, 0, 9, 0);
        shaped("ZERO to the first", 3, 0, 0, 7, 0, 9, 0);
        shaped("JUMP not reached, to the last", 1, 9, 0, 8, 1);
        shaped("JUMP not reached, to the first", 1, 9, 0, 8, 0);
        shaped("ZERO not reached, to the last", 1, 9, 0, 7, 1);
        shaped("JUMP to 99 of 100", 2, with(with(new int[] {8, 99}, times(98, 9, 0)), 9, 0));
        shaped("JUMP to 100 of 100", NO, with(with(new int[] {8, 100}, times(98, 9, 0)), 9, 0));
        int[] none = {-1, 3, 4, 100, MIN, MAX};
        for (int n : none) {
            shaped("JUMP " + n, NO, 8, n, 9, 0, 9, 0);
            shaped("ZERO " + n, NO, 0, 1, 7, n, 9, 0);
            shaped("JUMP " + n + " not reached", NO, 9, 0, 8, n, 9, 0);
            shaped("ZERO " + n + " not reached", NO, 9, 0, 7, n, 9, 0);
        }
    }

    /** "(n means nothing for 3 .. 6 and 9.)", and PUSH takes any. */
    private static void otherArgumentsMeanNothing() {
        int[] some = {-1, 8, 100, MIN, MAX};
        for (int n : some) {
            for (int kind = 3; kind <= 6; kind++) {
                shaped(kind + " " + n, 5, 0, 1, 0, 2, kind, n, 2, 0, 9, 0);
                shaped(kind + " " + n + " not reached", 1, 9, 0, kind, n);
            }
            shaped("END " + n, 1, 9, n);
            shaped("PUSH " + n, 3, 0, n, 2, 0, 9, 0);
            LabelGuard x = coded(0, n, 2, 7, 9, n);
            CHECK.due("verify", 3, x::verify);
            CHECK.due("run", "3 " + n, () -> x.run(3) + " " + x.get(7));
        }
    }

    /** "nothing goes on behind the last instruction": all but JUMP and END would. */
    private static void nothingGoesOnBehindTheLast() {
        for (int kind = 0; kind <= 7; kind++) {
            int[] before = with(new int[] {8, 2, 9, 0}, times(TAKES[kind], 0, 1));
            shaped("ends with " + kind, NO, with(before, kind, kind == 7 ? 1 : 0));
            shaped("ends with " + kind + ", not reached", 1, 9, 0, kind, 0);
        }
        shaped("ends with JUMP", 3, 8, 2, 9, 0, 8, 1);
        shaped("ends with END", 2, 8, 2, 9, 0, 9, 0);
        shaped("ends with ZERO, to what is reached anyway", NO, 0, 1, 7, 3, 9, 0, 0, 1, 7, 2);
        shaped("100 that go on", NO, with(steps(99), 0, 1));
        shaped("100 that end", 100, with(steps(99), 9, 0));
    }

    /** "each instruction is reached with one height of the stack only". */
    private static void oneHeightOnly() {
        shaped("the same by both ways", 7, 0, 1, 7, 4, 0, 5, 8, 5, 0, 6, 2, 0, 9, 0);
        shaped("one more by the one way", NO, 0, 1, 7, 4, 0, 5, 8, 4, 9, 0);
        shaped("one more by the other way", NO, 0, 1, 0, 1, 7, 5, 2, 0, 8, 5, 9, 0);
        shaped("one more each time round", NO, 0, 1, 1, 0, 7, 0, 2, 0, 9, 0);
        shaped("one less each time round", NO, 0, 1, 0, 1, 2, 0, 7, 2, 9, 0);
        shaped("as much each time round", 4, 1, 0, 7, 3, 8, 0, 9, 0);
        shaped("7 and 8 each time round", 18,
                with(with(times(7, 0, 1), 1, 0, 7, 10, 8, 7), with(times(7, 2, 1), 9, 0)));
        shaped("ZERO to itself", NO, 0, 1, 7, 1, 9, 0);
    }

    /** "at least as much as it takes off". */
    private static void atLeastAsMuchAsItTakesOff() {
        for (int kind = 2; kind <= 7; kind++) {
            for (int height = 0; height <= 3; height++) {
                int argument = kind == 7 ? height + 1 : 0;
                int[] code = with(times(height, 0, 1), kind, argument);
                int left = height - TAKES[kind] + (kind >= 3 && kind <= 6 ? 1 : 0);
                int[] whole = with(with(code, times(Math.max(0, left), 2, 0)), 9, 0);
                boolean fits = height >= TAKES[kind];
                shaped(kind + " with " + height, fits ? whole.length / 2 : NO, whole);
            }
        }
        shaped("JUMP with none", 2, 8, 1, 9, 0);
        for (int kind = 2; kind <= 7; kind++) {
            shaped(kind + " before what is reached anyway", NO, 0, 1, 7, 3, kind, kind == 7 ? 3 : 0, 9, 0);
        }
    }

    /** "at most 8 come after it". */
    private static void atMost8ComeAfterIt() {
        for (int kind = 0; kind <= 1; kind++) {
            for (int high = 1; high <= 10; high++) {
                int[] code = with(with(times(high, kind, 0), times(high, 2, 0)), 9, 0);
                shaped(high + " of " + kind, high <= 8 ? 2 * high + 1 : NO, code);
            }
        }
        int[] eight = times(8, 0, 1);
        shaped("ADD at 8", 17, with(with(with(eight, 3, 0), times(7, 2, 0)), 9, 0));
        shaped("JUMP at 8", 18, with(with(with(eight, 8, 9), times(8, 2, 0)), 9, 0));
        shaped("ZERO at 8", 17, with(with(with(eight, 7, 9), times(7, 2, 0)), 9, 0));
        shaped("a ninth behind a JUMP", NO, with(with(with(eight, 8, 9, 0, 1), times(9, 2, 0)), 9, 0));
        shaped("a ninth before what is reached anyway", NO,
                with(with(new int[] {0, 1, 7, 11}, times(9, 0, 1)), 9, 0));
        shaped("a ninth behind one taken off", 19, with(with(with(eight, 2, 0, 0, 1), times(8, 2, 0)), 9, 0));
    }

    /** "END with an empty stack". */
    private static void endWithAnEmptyStack() {
        for (int height = 0; height <= 8; height++) {
            shaped("END with " + height, height == 0 ? 1 : NO, with(times(height, 0, 1), 9, 0));
        }
        shaped("one END of two", NO, 0, 1, 0, 1, 7, 4, 9, 0, 2, 0, 9, 0);
        int[] last = with(steps(99), 9, 0);
        last[0] = 0;
        shaped("END with one at 99", NO, last);
    }

    /** "from each an END can be reached". */
    private static void fromEachAnEndCanBeReached() {
        shaped("JUMP to itself", NO, 8, 0);
        shaped("JUMP to itself, with an END that is not reached", NO, 8, 0, 9, 0);
        shaped("two that go round", NO, 8, 1, 8, 0);
        shaped("one way to an END, one that goes round", NO, 0, 1, 7, 3, 9, 0, 8, 3);
        shaped("the other way goes round", NO, 0, 1, 7, 3, 8, 2, 9, 0);
        shaped("both ways to an END", 4, 0, 1, 7, 3, 9, 0, 9, 0);
        shaped("round with a way out", 4, 1, 0, 7, 3, 8, 0, 9, 0);
        shaped("no END at all", NO, 0, 1, 7, 0, 8, 0);
        shaped("the END 99 steps away", 100, with(steps(99), 9, 0));
        shaped("no END 99 steps away", NO, with(steps(99), 8, 0));
        shaped("no END 99 steps away, but there is one", NO, with(steps(98), 8, 0, 9, 0));
        int[] back = times(100, 8, 0);
        back[1] = 99;
        for (int k = 2; k < 100; k++) {
            back[2 * k + 1] = k - 1;
        }
        back[2] = 9;
        shaped("the END 99 steps back", 100, back);
    }

    /** "for what is REACHED from instruction 0": all others need only kinds and arguments. */
    private static void whatIsNotReachedMayDoAnything() {
        shaped("takes off too much", 1, 9, 0, 3, 0, 9, 0);
        shaped("puts on too much", 1, with(new int[] {9, 0}, times(99, 0, 1)));
        shaped("ends with something on", 1, 9, 0, 0, 1, 9, 0);
        shaped("goes round", 1, 9, 0, 8, 1);
        shaped("comes with another height", 1, 9, 0, 0, 1, 8, 0);
        shaped("goes on behind the last", 1, 9, 0, 0, 1);
        shaped("JUMP over it", 2, 8, 2, 2, 0, 9, 0);
    }

    /** "how many instructions are reached": 1 to 100. */
    private static void howManyAreReached() {
        for (int many = 1; many <= 100; many++) {
            shaped(many + " of " + many, many, with(steps(many - 1), 9, 0));
            int[] code = with(with(steps(many - 1), 9, 0), times(100 - many, 9, 0));
            shaped(many + " of 100", many, code);
        }
        shaped("both ways of ZERO count", 5, 0, 1, 7, 4, 8, 3, 9, 0, 9, 0);
    }

    private static String contexts(LabelGuard x) {
        StringBuilder out = new StringBuilder();
        for (int k = 0; k < x.code(-1, 0); k++) {
            int context = x.found(k, 8);
            out.append(context < 0 ? "." : String.valueOf(context));
        }
        return out.toString();
    }

    /** a has level 0, b 2, c 3, all others 4, which is BOTTOM; 1 is above all. */
    private static LabelGuard shuffled(int... kindsAndArguments) {
        LabelGuard x = coded(kindsAndArguments);
        x.levels(5, SHUFFLED);
        x.label(0, 0, 0);
        x.label(0, 1, 2);
        x.label(0, 2, 3);
        return x;
    }

    private static void contextsOf(String what, String want, int... kindsAndArguments) {
        LabelGuard x = shuffled(kindsAndArguments);
        CHECK.due("verify: " + what, want.replace(".", "").length(), x::verify);
        CHECK.due("contexts: " + what, want, () -> contexts(x));
    }

    /** "behind its beginning and with i itself, there is no instruction ... that all ways from j ... come through". */
    private static void regionsEndWhereAllWaysMeet() {
        contextsOf("both ways to the next", "444", 1, 0, 7, 2, 9, 0);
        contextsOf("one that only one way has", "4404", 1, 0, 7, 3, 8, 3, 9, 0);
        contextsOf("one on each way", "440044", 1, 0, 7, 3, 8, 4, 8, 4, 8, 5, 9, 0);
        contextsOf("two ENDs", "4400", 1, 0, 7, 3, 9, 0, 9, 0);
        contextsOf("nothing behind where they met", "440444", 1, 0, 7, 3, 8, 3, 0, 1, 2, 7, 9, 0);
        contextsOf("not reached", "440.4", 1, 0, 7, 4, 8, 4, 8, 4, 9, 0);
    }

    /** "a way leads from j (over at least one step) to i", "other than j": a loop's own ZERO is in its region. */
    private static void regionsOfALoop() {
        contextsOf("a loop", "0004", 1, 0, 7, 3, 8, 0, 9, 0);
        contextsOf("without its loop it is not", "444", 1, 0, 7, 2, 9, 0);
        contextsOf("a loop from below", "004", 1, 0, 7, 0, 9, 0);
        contextsOf("something before", "40004", 8, 1, 1, 0, 7, 4, 8, 1, 9, 0);
        contextsOf("all ways come through one before they come back", "4404444",
                1, 0, 7, 3, 8, 3, 1, 7, 7, 6, 8, 0, 9, 0);
        contextsOf("the one that all ways come through is instruction 0", "444404",
                1, 7, 7, 5, 1, 0, 7, 0, 8, 0, 9, 0);
    }

    /** Nothing of the regions and labels of code before is left when other code is verified. */
    private static void regionsOfOtherCodeAreGone() {
        LabelGuard x = shuffled(1, 0, 7, 3, 8, 0, 9, 0);
        CHECK.due("a loop", "4 0004", () -> x.verify() + " " + contexts(x));
        x.empty();
        Check.putAll(x, 1, 0, 7, 2, 8, 3, 9, 0);
        CHECK.due("no loop", "4 4444", () -> x.verify() + " " + contexts(x));
        x.empty();
        Check.putAll(x, 1, 7, 7, 3, 8, 3, 9, 0);
        CHECK.due("no secret", "4 4444", () -> x.verify() + " " + contexts(x));
        CHECK.due("nothing secret on the stack", 4, () -> x.found(1, 9));
    }

    /** The same region wherever it stands: 0 .. 99 are the numbers of instructions. */
    private static void regionsAnywhereInTheCode() {
        for (int before = 0; before <= 95; before++) {
            int[] code = with(steps(before), 1, 0, 7, before + 4, 0, 1, 2, 3, 9, 0);
            contextsOf("behind " + before, "4".repeat(before) + "44004", code);
        }
        for (int inside = 0; inside <= 96; inside++) {
            int[] code = {1, 0, 7, inside + 3};
            for (int k = 0; k < inside; k++) {
                code = with(code, 8, k + 3);
            }
            contextsOf("a loop with " + inside, "0".repeat(inside + 3) + "4", with(code, 8, 0, 9, 0));
        }
        int[] all = with(steps(98), 9, 0, 9, 0);
        System.arraycopy(new int[] {1, 0, 7, 98, 1, 0, 7, 99}, 0, all, 0, 8);
        all[2 * 97 + 1] = 0;
        contextsOf("all 100 are in one", "0".repeat(100), all);
    }

    /** "the context is the join of BOTTOM and ...": BOTTOM alone in no region, and what PUSH gives there. */
    private static void contextIsBottomInNoRegion() {
        LabelGuard x = shuffled(0, 1, 2, 0, 9, 0);
        CHECK.due("verify", 3, x::verify);
        CHECK.due("contexts", "444", () -> contexts(x));
        CHECK.due("PUSH gives BOTTOM", 4, () -> x.found(1, 9));
        CHECK.due("STORE takes the secret away", 4, () -> x.found(2, 0));
        contextsOf("ZERO of what is BOTTOM", "4444", 1, 7, 7, 3, 8, 3, 9, 0);
    }

    /** "the join of ... the labels of the uppermost at all ZERO in whose region the instruction is". */
    private static void contextsOfTwoAreJoined() {
        contextsOf("b in a", "440014", 1, 0, 7, 5, 1, 1, 7, 5, 8, 5, 9, 0);
        contextsOf("a after b", "44244404", 1, 1, 7, 3, 8, 3, 8, 4, 1, 0, 7, 7, 8, 7, 9, 0);
        contextsOf("two times a", "440004", 1, 0, 7, 5, 1, 0, 7, 5, 8, 5, 9, 0);
        contextsOf("the uppermost, not the one below", "4442444", 1, 0, 1, 1, 7, 4, 8, 4, 2, 3, 8, 6, 9, 0);
    }

    /** "instruction 0 has at least the entry labels": more if more comes back to it. */
    private static void instruction0HasAtLeastTheEntryLabels() {
        LabelGuard x = shuffled(1, 0, 2, 3, 1, 7, 7, 5, 8, 0, 9, 0);
        CHECK.due("verify", 6, x::verify);
        CHECK.due("entry label", 0, () -> x.found(0, 0));
        CHECK.due("what comes back", 0, () -> x.found(0, 3));
        CHECK.due("entry label of what is never stored", 4, () -> x.found(0, 4));
        LabelGuard y = shuffled(1, 1, 2, 0, 1, 7, 7, 5, 8, 0, 9, 0);
        CHECK.due("verify", 6, y::verify);
        CHECK.due("both joined", 1, () -> y.found(0, 0));
        CHECK.due("behind STORE it is gone", 2, () -> y.found(2, 0));
    }

    /** "What an instruction leaves comes to those that may come next, joined to what else comes there". */
    private static void whatIsLeftIsJoined() {
        LabelGuard x = shuffled(1, 7, 7, 5, 1, 0, 2, 3, 8, 7, 1, 1, 2, 3, 9, 0);
        CHECK.due("verify", 8, x::verify);
        CHECK.due("one side", 0, () -> x.found(4, 3));
        CHECK.due("both", 1, () -> x.found(7, 3));
        LabelGuard y = shuffled(1, 7, 7, 4, 1, 0, 8, 5, 1, 1, 2, 3, 9, 0);
        CHECK.due("verify", 7, y::verify);
        CHECK.due("one side's stack", 0, () -> y.found(3, 9));
        CHECK.due("both on the stack", 1, () -> y.found(5, 9));
        LabelGuard z = shuffled(1, 7, 7, 3, 9, 0, 9, 0, 1, 0, 2, 3, 8, 3);
        CHECK.due("verify", 4, z::verify);
        CHECK.due("nothing from what is not reached", 4, () -> z.found(3, 3));
    }

    /** "the least ones so that ...": one way round is not enough, nor is one order of the instructions. */
    private static void labelsGoRoundAsOftenAsTheyChange() {
        String[] texts = {"*d{h=g;g=f;f=e;e=a;}", "*d{e=a;f=e;g=f;h=g;}"};
        for (String text : texts) {
            LabelGuard x = shuffled();
            CHECK.same("compile " + text, 12, Check.compiled(x, text));
            CHECK.due("verify " + text, 12, x::verify);
            for (int k = 0; k < 12; k += 11) {
                int at = k;
                for (int v = 4; v < 8; v++) {
                    int variable = v;
                    CHECK.due("found " + k + " " + v + " of " + text, 0, () -> x.found(at, variable));
                }
            }
            CHECK.due("the first look has a secret of none", 4, () -> x.found(1, 9));
        }
    }

    /** "What is put on the stack has the join of the context and of what it is made of (the variable; x and y)". */
    private static void whatIsPutOnHasTheJoin() {
        for (int kind = 3; kind <= 6; kind++) {
            int[][] xAndYAndJoin = {{0, 1, 1}, {0, 7, 0}, {7, 0, 0}, {7, 7, 4}, {1, 1, 2}, {2, 1, 1}};
            for (int[] one : xAndYAndJoin) {
                LabelGuard x = shuffled(1, one[0], 1, one[1], kind, 0, 2, 5, 9, 0);
                CHECK.due("verify", 5, x::verify);
                CHECK.due(kind + " of " + one[0] + " and " + one[1], one[2], () -> x.found(3, 9));
                CHECK.due("STORE of it", one[2], () -> x.found(4, 5));
            }
            LabelGuard y = shuffled(1, 0, 7, 7, 1, 1, 0, 1, kind, 0, 2, 5, 8, 7, 9, 0);
            CHECK.due("verify", 8, y::verify);
            CHECK.due("LOAD in a region", 1, () -> y.found(3, 9));
            CHECK.due("PUSH in a region", 0, () -> y.found(4, 10));
            CHECK.due(kind + " in a region", 1, () -> y.found(5, 9));
        }
    }

    /** The eighth on the stack has a label as the others have. */
    private static void labelsOfEightOnTheStack() {
        int[] seven = times(7, 1, 7);
        LabelGuard x = shuffled(with(with(with(seven, 1, 0), times(8, 2, 5)), 9, 0));
        CHECK.due("verify", 17, x::verify);
        CHECK.due("LOAD", 0, () -> x.found(8, 16));
        CHECK.due("STORE", 0, () -> x.found(9, 5));
        CHECK.due("STORE of the seventh", 4, () -> x.found(10, 5));
        LabelGuard y = shuffled(with(with(with(seven, 1, 0, 7, 10, 8, 10), times(7, 2, 5)), 9, 0));
        CHECK.due("verify", 18, y::verify);
        CHECK.due("ZERO", "4 0 4", () -> y.found(8, 8) + " " + y.found(9, 8) + " " + y.found(10, 8));
        int[] inside = with(new int[] {1, 0, 7, 18}, with(times(8, 0, 1), times(8, 2, 5)));
        LabelGuard z = shuffled(with(inside, 9, 0));
        CHECK.due("verify", 19, z::verify);
        CHECK.due("PUSH", "0 0", () -> z.found(10, 9) + " " + z.found(10, 16));
        LabelGuard w = shuffled(with(with(seven, 1, 0, 8, 9), with(times(8, 2, 5), 9, 0)));
        CHECK.due("verify", 18, w::verify);
        CHECK.due("JUMP", 0, () -> w.found(9, 16));
        int[] twoWays = {1, 7, 7, 11, 1, 0, 8, 14, 1, 7, 2, 6, 8, 15, 2, 5};
        LabelGuard v = shuffled(with(with(seven, twoWays), with(times(7, 2, 6), 9, 0)));
        CHECK.due("verify", 23, v::verify);
        CHECK.due("one way's eighth is not the other's", "0 4", () -> v.found(15, 5) + " " + v.found(15, 6));
    }

    /** What is not taken off stays on the stack with its label. */
    private static void whatStaysOnTheStackKeepsItsLabel() {
        int[][] others = {{8, 3, 8, 4}, {1, 7, 7, 4}, {1, 7, 2, 5}, {0, 1, 2, 5}};
        for (int[] two : others) {
            LabelGuard x = shuffled(with(with(new int[] {1, 0, 1, 1}, two), 2, 5, 2, 6, 9, 0));
            CHECK.due("verify", 7, x::verify);
            CHECK.due("0 and 2 stay", "0 2 -1", () -> x.found(4, 9) + " " + x.found(4, 10) + " " + x.found(4, 11));
            CHECK.due("they are stored", "2 0", () -> x.found(6, 5) + " " + x.found(6, 6));
        }
    }

    /** "each variable's label is not above its policy": the same one is not above, one beside is. */
    private static void safeIsNotAboveThePolicy() {
        for (int v = 0; v < 8; v++) {
            for (int label = 0; label < 5; label++) {
                for (int policy = 0; policy < 5; policy++) {
                    LabelGuard x = coded(9, 0);
                    x.levels(5, SHUFFLED);
                    x.label(0, v, label);
                    x.label(1, v, policy);
                    boolean safe = label == policy || label == 4 || policy == 1;
                    String told = v + ", label " + label + ", policy " + policy;
                    CHECK.due("verify " + told, safe ? 1 : Check.ILLEGAL_STATE, x::verify);
                    CHECK.due("run " + told, safe ? 1 : Check.ILLEGAL_STATE, () -> x.run(1));
                }
            }
        }
    }

    private static void safe(String what, Object want, int... kindsAndArguments) {
        LabelGuard x = coded(kindsAndArguments);
        x.levels(2, TWO);
        x.label(0, 0, 1);
        x.label(1, 1, 0);
        CHECK.due("verify: " + what, want, x::verify);
    }

    /** "at each END that is reached". */
    private static void safeAtEachEndThatIsReached() {
        String no = Check.ILLEGAL_STATE;
        safe("the first END", no, 1, 2, 7, 5, 1, 0, 2, 1, 9, 0, 9, 0);
        safe("the last END", no, 1, 2, 7, 3, 9, 0, 1, 0, 2, 1, 9, 0);
        safe("an END that is not reached", 2, 8, 4, 1, 0, 2, 1, 9, 0, 9, 0);
        safe("no END", 5, 1, 0, 2, 1, 0, 1, 2, 1, 9, 0);
        safe("by the context alone", no, 1, 0, 7, 4, 0, 1, 2, 1, 9, 0);
        safe("by both ways alike", 7, 1, 0, 7, 3, 8, 4, 8, 4, 0, 1, 2, 1, 9, 0);
        safe("at 99", no, with(with(steps(97), 1, 0, 2, 1), 9, 0));
    }

    /** "(It is accepted no more if it throws.)", whether it was compiled or verified. */
    private static void verifyThatThrowsAcceptsNothing() {
        LabelGuard x = new LabelGuard();
        x.levels(2, TWO);
        CHECK.same("compile", 3, Check.compiled(x, "b=1;"));
        CHECK.due("accepted", 3, () -> x.run(3));
        x.label(0, 0, 1);
        x.label(1, 0, 0);
        CHECK.due("accepted still", 3, () -> x.run(3));
        CHECK.due("not safe", Check.ILLEGAL_STATE, x::verify);
        CHECK.due("accepted no more", Check.ILLEGAL_STATE, () -> x.run(3));
        x.label(1, 0, 1);
        CHECK.due("it must be verified again", Check.ILLEGAL_STATE, () -> x.run(3));
        CHECK.due("verify", 3, x::verify);
        CHECK.due("accepted", 3, () -> x.run(3));
        x.label(1, 0, 0);
        CHECK.due("not safe again", Check.ILLEGAL_STATE, x::verify);
        CHECK.due("accepted no more", Check.ILLEGAL_STATE, () -> x.run(3));
        x.label(1, 0, 1);
        x.put(10, 0);
        CHECK.due("no shape", NO, x::verify);
        CHECK.due("not accepted", Check.ILLEGAL_STATE, () -> x.run(3));
        x.label(1, 0, 0);
        CHECK.due("neither shape nor safe", NO, x::verify);
    }

    /** Verifying takes and finds labels; text, program, code and values stay as they are. */
    private static void verifyFindsLabelsAndChangesNoOther() {
        TWINS.changed("verify (compiled)", 14, Twins.STATES.get("compiled"), LabelGuard::verify, Set.of("found"));
        TWINS.refused("verify again (verified)", 7, Twins.STATES.get("verified"), LabelGuard::verify);
        TWINS.refused("verify again (unsafe)", Check.ILLEGAL_STATE, Twins.STATES.get("unsafe"), LabelGuard::verify);
        TWINS.refused("verify again (shapeless)", NO, Twins.STATES.get("shapeless"), LabelGuard::verify);
        TWINS.refused("verify again (full)", 99, Twins.STATES.get("full"), LabelGuard::verify);
        TWINS.changed("not safe any more", Check.ILLEGAL_STATE, x -> {
            Twins.STATES.get("verified").accept(x);
            x.label(1, 5, 0);
        }, LabelGuard::verify, Set.of("run"));
    }

    /** "Code is ACCEPTED if it was compiled, or verified, and not changed since". */
    private static void acceptedAsLongAsItIsNotChanged() {
        LabelGuard x = new LabelGuard();
        Check.putAll(x, times(100, 9, 0));
        CHECK.due("put", Check.ILLEGAL_STATE, () -> x.run(1));
        CHECK.due("verify", 1, x::verify);
        x.put(9, 0);
        x.set(0, 1);
        x.write(Check.packed("~"));
        CHECK.due("an error", NO, x::compile);
        CHECK.due("levels", true, () -> x.levels(2, TWO));
        x.label(0, 0, 1);
        x.label(1, 0, 0);
        CHECK.due("too secret", Check.ILLEGAL_STATE, x::compile);
        CHECK.due("no levels", NO, () -> x.levels(2, 0L));
        CHECK.due("no such run", NO, () -> x.run(2001));
        CHECK.due("too short a run", -1, () -> x.run(0));
        CHECK.due("accepted after all that", 1, () -> x.run(1));
        x.empty();
        CHECK.due("not if it is empty", Check.ILLEGAL_STATE, () -> x.run(1));
        x.put(9, 0);
        CHECK.due("nor if it is put again", Check.ILLEGAL_STATE, () -> x.run(1));
        CHECK.same("compiled", 3, Check.compiled(x, "a=0;"));
        CHECK.due("accepted", 3, () -> x.run(3));
        x.put(9, 0);
        CHECK.due("not if something is behind it", Check.ILLEGAL_STATE, () -> x.run(3));
    }

    /** "Labels in order, entry and policy may be set again: that changes nothing of what is accepted". */
    private static void labelsSetAgainChangeNothingElse() {
        for (String state : Twins.STATES.keySet()) {
            Consumer<LabelGuard> start = Twins.STATES.get(state);
            if (!state.equals("new")) {
                TWINS.changed("levels (" + state + ")", true, start, x -> x.levels(1, 1L),
                        Set.of("joins", "entry", "policy"));
                TWINS.changed("entry (" + state + ")", true, start, x -> x.label(0, 0, 3), Set.of("entry"));
                TWINS.changed("policy (" + state + ")", true, start, x -> x.label(1, 7, 0), Set.of("policy"));
            }
        }
    }

    /** "NONE if there is no such instruction". */
    private static void foundOfNoInstruction() {
        int[] counts = {1, 2, 64, 99, 100};
        for (int count : counts) {
            LabelGuard x = coded(with(steps(count - 1), 9, 0));
            CHECK.due("verify", count, x::verify);
            CHECK.due("the first", "0 0", () -> x.found(0, 0) + " " + x.found(0, 8));
            CHECK.due("the last", "0 0", () -> x.found(count - 1, 0) + " " + x.found(count - 1, 8));
            int[] none = {-1, count, count + 1, 100, MIN, MAX};
            for (int k : none) {
                CHECK.due("variable of " + k + " of " + count, -1, () -> x.found(k, 0));
                CHECK.due("context of " + k + " of " + count, -1, () -> x.found(k, 8));
                CHECK.due("stack of " + k + " of " + count, -1, () -> x.found(k, 9));
            }
        }
        TWINS.refusedAlways("found -1", -1, x -> x.found(-1, 0));
        TWINS.refusedAlways("found 100", -1, x -> x.found(100, 0));
    }

    /** "8 the context, 9 and on the stack's from below. NONE if there is no such ... what". */
    private static void foundOfNoWhat() {
        LabelGuard x = shuffled(with(with(new int[] {1, 0, 1, 1, 1, 2}, times(5, 1, 3)), with(times(8, 2, 4), 9, 0)));
        CHECK.due("verify", 17, x::verify);
        int[] stack = {0, 2, 3, 4, 4, 4, 4, 4};
        for (int k = 0; k <= 16; k++) {
            int at = k;
            int height = k <= 8 ? k : 16 - k;
            for (int what = 9; what <= 18; what++) {
                int asked = what;
                int want = what - 9 < height ? stack[what - 9] : -1;
                CHECK.due("found " + k + " " + what, want, () -> x.found(at, asked));
            }
            CHECK.due("the first variable", 0, () -> x.found(at, 0));
            CHECK.due("the last variable", 4, () -> x.found(at, 7));
            CHECK.due("the context", 4, () -> x.found(at, 8));
            int[] none = {-1, MIN, MAX};
            for (int what : none) {
                CHECK.due("found " + k + " " + what, -1, () -> x.found(at, what));
            }
        }
        TWINS.refusedAlways("found 0 -1", -1, y -> y.found(0, -1));
        TWINS.refusedAlways("found 0 9", -1, y -> y.found(0, 9));
    }

    /** "or it is not reached". */
    private static void foundOfWhatIsNotReached() {
        LabelGuard x = coded(8, 2, 0, 5, 9, 0, 2, 0);
        CHECK.due("verify", 2, x::verify);
        for (int what = -1; what <= 17; what++) {
            int asked = what;
            int want = what >= 0 && what <= 8 ? 0 : -1;
            CHECK.due("reached first", want, () -> x.found(0, asked));
            CHECK.due("not reached", -1, () -> x.found(1, asked));
            CHECK.due("reached last", want, () -> x.found(2, asked));
            CHECK.due("not reached, the last", -1, () -> x.found(3, asked));
        }
    }

    /** "if verify found the shape the latest time": safe or not, but not before any, nor by compile. */
    private static void foundNeedsTheShape() {
        LabelGuard x = coded(1, 0, 2, 1, 9, 0);
        x.levels(2, TWO);
        x.label(0, 0, 1);
        x.label(1, 1, 0);
        CHECK.due("before any verify", -1, () -> x.found(0, 0));
        CHECK.due("not safe", Check.ILLEGAL_STATE, x::verify);
        CHECK.due("found", "1 0 1", () -> x.found(0, 0) + " " + x.found(0, 1) + " " + x.found(2, 1));
        x.label(0, 0, 0);
        CHECK.due("found as it was then", 1, () -> x.found(2, 1));
        CHECK.due("safe", 3, x::verify);
        CHECK.due("found as it is", 0, () -> x.found(2, 1));
        x.put(8, 9);
        CHECK.due("no shape", NO, x::verify);
        CHECK.due("nothing found", -1, () -> x.found(2, 1));
        CHECK.same("compiled", 3, Check.compiled(x, "b=a;"));
        CHECK.due("not verified", -1, () -> x.found(2, 1));
        CHECK.due("verify", 3, x::verify);
        CHECK.due("found", 0, () -> x.found(2, 1));
        CHECK.same("compiled again", 3, Check.compiled(x, "b=a;"));
        CHECK.due("the latest verify was of other code", -1, () -> x.found(2, 1));
    }

    /** "and the code was not changed since". */
    private static void foundOfChangedCode() {
        LabelGuard x = coded(9, 0);
        CHECK.due("verify", 1, x::verify);
        CHECK.due("found", 0, () -> x.found(0, 0));
        CHECK.due("run", 1, () -> x.run(1));
        CHECK.due("found after run", 0, () -> x.found(0, 0));
        x.put(9, 0);
        CHECK.due("put", "-1 -1", () -> x.found(0, 0) + " " + x.found(1, 0));
        CHECK.due("verify", 1, x::verify);
        x.empty();
        CHECK.due("empty", -1, () -> x.found(0, 0));
        x.put(9, 0);
        CHECK.due("the same again", -1, () -> x.found(0, 0));
    }
}
