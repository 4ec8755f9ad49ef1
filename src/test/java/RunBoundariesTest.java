import java.util.Set;
import java.util.function.Consumer;

/** The boundary cases of values and of what is run: "Terms" on them, and promises 14 to 17, sentence by sentence. */
public final class RunBoundariesTest {
    private static final Check CHECK = new Check();
    private static final Twins TWINS = new Twins(CHECK);
    private static final int MIN = Integer.MIN_VALUE;
    private static final int MAX = Integer.MAX_VALUE;
    private static final int[] NO_VARIABLES = {-1, 8, MIN, MAX};
    /** Nine instructions each time round, and five more. */
    private static final String COUNT = "*(0<a){a=(a-1);}";

    public static void main(String[] args) {
        valuesAre0AtFirst();
        setTakesAnyInt();
        setOfNoVariable();
        getOfNoVariable();
        intsWrap();
        lessIsNotEqual();
        choiceIsMadeBy0Alone();
        loopsAreLookedAtBefore();
        zeroGoesBy0Alone();
        yIsTakenOffBeforeX();
        runTakes0To2000();
        runOf2000Instructions();
        endIsOneInstruction();
        runThatDidNotComeToItsEnd();
        runChangesValuesAlone();
        runOfWhatIsNotAccepted();
        runThatIsWrongInBothWays();
        runBeginsWithAnEmptyStack();
        runUsesTheWholeStack();
        eachVariableIsLoadedAndStored();
        sixDeepIsRunAndFollowed();
        followTakes0To500();
        followOf500Looks();
        followCountsEachLook();
        followThatDidNotComeToItsEnd();
        followWithoutAProgram();
        followOfTheLatestProgram();
        anObjectServes512Calls();
        CHECK.end();
    }

    private static LabelGuard compiled(String text) {
        LabelGuard x = new LabelGuard();
        Check.compiled(x, text);
        CHECK.due("no error in " + text, -1, x::position);
        return x;
    }

    private static LabelGuard verified(int... kindsAndArguments) {
        LabelGuard x = new LabelGuard();
        Check.putAll(x, kindsAndArguments);
        CHECK.due("verify", kindsAndArguments.length / 2, x::verify);
        return x;
    }

    /** "each has a value, an int (0 at first)". */
    private static void valuesAre0AtFirst() {
        LabelGuard x = compiled("a=(b+1);");
        CHECK.same("before", "0 0 0 0 0 0 0 0", Twins.values(x));
        CHECK.due("run", 5, () -> x.run(5));
        CHECK.same("after", "1 0 0 0 0 0 0 0", Twins.values(x));
    }

    /** "A variable gets a value: true": the first and the last one, and any int. */
    private static void setTakesAnyInt() {
        int[] some = {MIN, MAX, -1, 0, 1, 999, 1 << 16};
        for (int v = 0; v < 8; v++) {
            for (int value : some) {
                int variable = v;
                LabelGuard x = new LabelGuard();
                CHECK.due("set " + v + " " + value, true, () -> x.set(variable, value));
                String want = "0 ".repeat(v) + value + " 0".repeat(7 - v);
                CHECK.same("that one alone", want, Twins.values(x));
            }
        }
    }

    /** "false if there is none such". */
    private static void setOfNoVariable() {
        for (int v : NO_VARIABLES) {
            TWINS.refusedAlways("set " + v, false, x -> x.set(v, 5));
        }
    }

    /** "0 if there is none such". */
    private static void getOfNoVariable() {
        LabelGuard x = new LabelGuard();
        for (int v = 0; v < 8; v++) {
            x.set(v, 70 + v);
        }
        CHECK.due("the first", 70, () -> x.get(0));
        CHECK.due("the last", 77, () -> x.get(7));
        for (int v : NO_VARIABLES) {
            CHECK.due("get " + v, 0, () -> x.get(v));
            TWINS.refusedAlways("get " + v, 0, y -> y.get(v));
        }
    }

    /** An operation of a program, as it is run and as it is meant. */
    private static void operation(int a, char operation, int b, int want) {
        LabelGuard x = compiled("c=(a" + operation + "b);");
        x.set(0, a);
        x.set(1, b);
        String told = a + " " + operation + " " + b;
        CHECK.due("run " + told, "5 " + want, () -> x.run(5) + " " + x.get(2));
        x.set(2, 12345);
        CHECK.due("follow " + told, "0 " + want, () -> x.follow(0) + " " + x.get(2));
    }

    /** "(ints wrap; ...)". */
    private static void intsWrap() {
        operation(MAX, '+', 0, MAX);
        operation(MAX, '+', 1, MIN);
        operation(MAX, '+', MAX, -2);
        operation(MIN, '+', -1, MAX);
        operation(MIN, '+', MIN, 0);
        operation(MIN, '-', 0, MIN);
        operation(MIN, '-', 1, MAX);
        operation(MAX, '-', -1, MIN);
        operation(0, '-', MIN, MIN);
        operation(MIN, '-', MIN, 0);
        operation(46340, '*', 46340, 2147395600);
        operation(46341, '*', 46341, -2147479015);
        operation(65536, '*', 65536, 0);
        operation(MIN, '*', -1, MIN);
        operation(MAX, '*', MAX, 1);
        operation(MAX, '*', 2, -2);
    }

    /** "x < y is 1 if x is less, else 0": also where x - y would wrap. */
    private static void lessIsNotEqual() {
        int[] some = {MIN, MIN + 1, -1, 0, 1, MAX - 1, MAX};
        for (int i = 0; i < some.length; i++) {
            for (int k = 0; k < some.length; k++) {
                operation(some[i], '<', some[k], i < k ? 1 : 0);
            }
        }
    }

    private static final int[] NOT_0 = {1, -1, 2, 256, 1 << 16, 1 << 31, MAX};

    /** "? goes on with the first program if its expression is not 0, else with the second one". */
    private static void choiceIsMadeBy0Alone() {
        LabelGuard x = compiled("?a{b=1;}{b=2;}");
        x.set(0, 0);
        CHECK.due("run 0", "5 2", () -> x.run(2000) + " " + x.get(1));
        CHECK.due("follow 0", "1 2", () -> x.follow(500) + " " + x.get(1));
        for (int value : NOT_0) {
            x.set(0, value);
            CHECK.due("run " + value, "6 1", () -> x.run(2000) + " " + x.get(1));
            x.set(1, 0);
            CHECK.due("follow " + value, "1 1", () -> x.follow(500) + " " + x.get(1));
        }
    }

    /** "as long as its expression, looked at before each time, is not 0": none, one and more times. */
    private static void loopsAreLookedAtBefore() {
        for (int times = 0; times <= 4; times++) {
            LabelGuard x = compiled("*a{a=(a-1);b=(b+1);}");
            x.set(0, times);
            int looks = times + 1;
            CHECK.due("follow " + times, looks + " 0 " + times, () -> x.follow(500) + " " + x.get(0) + " " + x.get(1));
            x.set(0, times);
            x.set(1, 0);
            String want = (11 * times + 3) + " 0 " + times;
            CHECK.due("run " + times, want, () -> x.run(2000) + " " + x.get(0) + " " + x.get(1));
        }
        LabelGuard x = compiled("*a{b=a;a=0;}");
        for (int value : NOT_0) {
            x.set(0, value);
            CHECK.due("once " + value, "2 " + value, () -> x.follow(500) + " " + x.get(1));
        }
    }

    /** "7 ZERO: the uppermost is taken off; if it is 0 on to instruction n. ... Otherwise on to the next one". */
    private static void zeroGoesBy0Alone() {
        LabelGuard x = verified(0, 7, 1, 0, 7, 5, 2, 1, 8, 6, 2, 2, 9, 0);
        CHECK.due("0", "5 0 7", () -> x.run(9) + " " + x.get(1) + " " + x.get(2));
        for (int value : NOT_0) {
            x.set(0, value);
            x.set(1, 0);
            CHECK.due(value + " is not 0", "6 7", () -> x.run(9) + " " + x.get(1));
        }
    }

    /** "y, then x are taken off, x + y, x - y, x * y, x < y put on". */
    private static void yIsTakenOffBeforeX() {
        int[] want = {12, 2, 35, 0};
        int[] turned = {12, -2, 35, 1};
        for (int kind = 3; kind <= 6; kind++) {
            LabelGuard x = verified(0, 7, 0, 5, kind, -1, 2, 0, 9, 0);
            CHECK.due("7 and 5, kind " + kind, "5 " + want[kind - 3], () -> x.run(5) + " " + x.get(0));
            LabelGuard y = verified(0, 5, 0, 7, kind, 100, 2, 0, 9, 0);
            CHECK.due("5 and 7, kind " + kind, "5 " + turned[kind - 3], () -> y.run(5) + " " + y.get(0));
        }
    }

    /** "IllegalArgumentException if n is not 0 .. 2000". */
    private static void runTakes0To2000() {
        int[] wrong = {-1, 2001, MIN, MAX};
        for (int n : wrong) {
            TWINS.refusedAlways("run " + n, Check.ILLEGAL_ARGUMENT, x -> x.run(n));
        }
        LabelGuard x = compiled("");
        CHECK.due("run 0", -1, () -> x.run(0));
        CHECK.due("run 1", 1, () -> x.run(1));
        CHECK.due("run 2000", 1, () -> x.run(2000));
    }

    /** "at most n instructions": 2000 of them can be, 2001 cannot. */
    private static void runOf2000Instructions() {
        LabelGuard x = compiled(COUNT + "b=1;c=2;d=3;");
        x.set(0, 221);
        CHECK.due("1999 of 2000", -1, () -> x.run(1999));
        CHECK.same("as they were", "221 0 0 0 0 0 0 0", Twins.values(x));
        CHECK.due("2000 of 2000", 2000, () -> x.run(2000));
        CHECK.same("as they are", "0 1 2 3 0 0 0 0", Twins.values(x));
        LabelGuard y = compiled(COUNT + "?1{}{}b=1;c=2;");
        y.set(0, 221);
        CHECK.due("2000 of 2001", -1, () -> y.run(2000));
        CHECK.due("2001 are too many", Check.ILLEGAL_ARGUMENT, () -> y.run(2001));
        CHECK.same("as they were", "221 0 0 0 0 0 0 0", Twins.values(y));
        y.set(0, 220);
        CHECK.due("nine less", 1992, () -> y.run(2000));
        LabelGuard z = compiled("*1{}");
        CHECK.due("without end", -1, () -> z.run(2000));
    }

    /** "(END is one): how many, if it came to its END; NONE if it did not". */
    private static void endIsOneInstruction() {
        String[] texts = {"", "a=1;", "a=(1+2);", "?a{}{}", "*a{}", "a=1;b=2;c=3;"};
        int[] many = {1, 3, 5, 3, 3, 7};
        for (int i = 0; i < texts.length; i++) {
            int due = many[i];
            for (int n = 0; n <= due + 2; n++) {
                LabelGuard x = compiled(texts[i]);
                int most = n;
                CHECK.due("run " + n + " of " + texts[i], n < due ? -1 : due, () -> x.run(most));
            }
        }
    }

    /** "NONE if it did not (variables are as they were then)": and so is all else. */
    private static void runThatDidNotComeToItsEnd() {
        String[] states = {"compiled", "verified", "full"};
        int[] due = {38, 6, 99};
        for (int i = 0; i < states.length; i++) {
            Consumer<LabelGuard> start = Twins.STATES.get(states[i]);
            int enough = due[i];
            TWINS.refused("run 0 (" + states[i] + ")", -1, start, x -> x.run(0));
            TWINS.refused("run 1 (" + states[i] + ")", -1, start, x -> x.run(1));
            TWINS.refused("one too few (" + states[i] + ")", -1, start, x -> x.run(enough - 1));
            LabelGuard x = new LabelGuard();
            start.accept(x);
            CHECK.due("enough (" + states[i] + ")", enough, () -> x.run(enough));
        }
    }

    /** What comes to its END changes the values, and with them only what goes on from them. */
    private static void runChangesValuesAlone() {
        TWINS.changed("run (compiled)", 38, Twins.STATES.get("compiled"), x -> x.run(38),
                Set.of("values", "run", "follow"));
        TWINS.changed("run (verified)", 6, Twins.STATES.get("verified"), x -> x.run(6),
                Set.of("values", "follow"));
        TWINS.changed("follow (compiled)", 4, Twins.STATES.get("compiled"), x -> x.follow(4),
                Set.of("values", "run", "follow"));
    }

    /** "IllegalStateException if the code is not accepted": for each n that may be. */
    private static void runOfWhatIsNotAccepted() {
        String[] states = {"new", "unsafe", "shapeless"};
        int[] some = {0, 1, 1999, 2000};
        for (String state : states) {
            for (int n : some) {
                TWINS.refused("run " + n + " (" + state + ")", Check.ILLEGAL_STATE, Twins.STATES.get(state),
                        x -> x.run(n));
            }
        }
    }

    /** "(The one named first, if both hold.)". */
    private static void runThatIsWrongInBothWays() {
        String[] states = {"new", "unsafe", "shapeless"};
        int[] wrong = {-1, 2001, MIN, MAX};
        for (String state : states) {
            for (int n : wrong) {
                LabelGuard x = new LabelGuard();
                Twins.STATES.get(state).accept(x);
                CHECK.due("run " + n + " (" + state + ")", Check.ILLEGAL_ARGUMENT, () -> x.run(n));
            }
        }
    }

    /** "Runs the code from its beginning, with an empty stack": whatever the run before left. */
    private static void runBeginsWithAnEmptyStack() {
        LabelGuard x = verified(0, 1, 0, 2, 0, 3, 0, 4, 0, 5, 0, 6, 0, 7, 0, 8,
                2, 0, 2, 1, 2, 2, 2, 3, 2, 4, 2, 5, 2, 6, 2, 7, 9, 0);
        for (int n = 0; n < 17; n++) {
            int few = n;
            x.set(0, 0);
            CHECK.due("run " + n, -1, () -> x.run(few));
            CHECK.due("then run 17", 17, () -> x.run(17));
            CHECK.same("from above", "8 7 6 5 4 3 2 1", Twins.values(x));
        }
    }

    /** Eight on the stack are all kept, as are the values below when others come and go. */
    private static void runUsesTheWholeStack() {
        LabelGuard x = verified(0, 1, 0, 2, 0, 3, 0, 4, 0, 5, 0, 6, 0, 7, 0, 8,
                4, 0, 4, 0, 4, 0, 4, 0, 4, 0, 4, 0, 4, 0, 2, 7, 9, 0);
        CHECK.due("1-(2-(3-(4-(5-(6-(7-8))))))", "17 -4", () -> x.run(17) + " " + x.get(7));
        LabelGuard y = compiled("h=(1-(2-(3-(4-(5-(6-7))))));");
        CHECK.due("seven are a program's most", "15 4", () -> y.run(15) + " " + y.get(7));
        y.set(7, 0);
        CHECK.due("and meant so", "0 4", () -> y.follow(0) + " " + y.get(7));
    }

    /** "1 LOAD variable n. 2 STORE ... into variable n": each of a to h, and as a program means it. */
    private static void eachVariableIsLoadedAndStored() {
        for (int from = 0; from < 8; from++) {
            for (int to = 0; to < 8; to++) {
                int target = to;
                LabelGuard x = compiled((char) ('a' + to) + "=" + (char) ('a' + from) + ";");
                for (int round = 0; round < 2; round++) {
                    int value = 50 + from + 10 * round;
                    x.set(to, 5);
                    x.set(from, value);
                    CHECK.due("run", "3 " + value, () -> x.run(3) + " " + x.get(target));
                    x.set(to, 5);
                    x.set(from, value + 1);
                    CHECK.due("follow", "0 " + (value + 1), () -> x.follow(0) + " " + x.get(target));
                }
            }
        }
    }

    private static void bothWays(String text, int steps, int looks, int want) {
        LabelGuard x = compiled(text);
        x.set(0, 1);
        CHECK.due("follow " + text, looks + " " + want, () -> x.follow(looks) + " " + x.get(7));
        x.set(0, 1);
        x.set(7, 0);
        CHECK.due("run " + text, steps + " " + want, () -> x.run(steps) + " " + x.get(7));
    }

    /** "Brackets of both kinds are at most 6 deep": what is in the sixth is done as the rest is. */
    private static void sixDeepIsRunAndFollowed() {
        bothWays("?a{?a{?a{?a{?a{?a{h=7;}{}}{}}{}}{}}{}}{}", 21, 6, 7);
        bothWays("?b{}{?b{}{?b{}{?b{}{?b{}{?b{}{h=7;}}}}}}", 15, 6, 7);
        bothWays("*a{*a{*a{*a{*a{*a{h=7;a=0;}}}}}}", 35, 12, 7);
        bothWays("?((((((a+1)+1)+1)+1)+1)-6){h=7;}{h=8;}", 17, 1, 8);
        bothWays("*(0+(0+(0+(0+(0+(0+a)))))){h=7;a=0;}", 34, 2, 7);
        bothWays("h=((((((a+1)*2)+3)*4)+5)*6);", 15, 0, 198);
    }

    /** "NONE if ... n is not 0 .. 500". */
    private static void followTakes0To500() {
        int[] wrong = {-1, 501, MIN, MAX};
        for (int n : wrong) {
            TWINS.refusedAlways("follow " + n, -1, x -> x.follow(n));
        }
        LabelGuard x = compiled("a=(a+1);");
        CHECK.due("follow -1", -1, () -> x.follow(-1));
        CHECK.due("follow 501", -1, () -> x.follow(501));
        CHECK.due("not done", 0, () -> x.get(0));
        CHECK.due("follow 0", "0 1", () -> x.follow(0) + " " + x.get(0));
        CHECK.due("follow 500", "0 2", () -> x.follow(500) + " " + x.get(0));
    }

    /** "with at most n expressions of ? and * looked at": 500 of them can be, 501 cannot. */
    private static void followOf500Looks() {
        LabelGuard x = compiled(COUNT + "b=7;");
        x.set(0, 499);
        CHECK.due("499 of 500", -1, () -> x.follow(499));
        CHECK.same("as they were", "499 0 0 0 0 0 0 0", Twins.values(x));
        CHECK.due("500 of 500", 500, () -> x.follow(500));
        CHECK.same("as they are", "0 7 0 0 0 0 0 0", Twins.values(x));
        x.set(0, 500);
        CHECK.due("500 of 501", -1, () -> x.follow(500));
        CHECK.due("501 are too many", -1, () -> x.follow(501));
        CHECK.same("as they were", "500 7 0 0 0 0 0 0", Twins.values(x));
        LabelGuard y = compiled("*1{}");
        CHECK.due("without end", -1, () -> y.follow(500));
    }

    /** "how many were, if it came to its end": the last look of a * counts, what is not come to does not. */
    private static void followCountsEachLook() {
        String[] texts = {"", "a=1;", "?0{}{}", "?1{}{}", "*0{}", "?0{?1{}{}}{}", "?1{?1{}{}}{}", "?0{}{*0{}}",
            "b=2;*b{b=(b-1);}", "b=2;*b{b=(b-1);?b{}{}}", "?0{}{}*0{}?1{}{}", "b=1;*b{*b{b=0;}}"};
        int[] looks = {0, 0, 1, 1, 1, 1, 2, 2, 3, 5, 3, 4};
        for (int i = 0; i < texts.length; i++) {
            int due = looks[i];
            for (int n = 0; n <= due + 1; n++) {
                LabelGuard x = compiled(texts[i]);
                int most = n;
                CHECK.due("follow " + n + " " + texts[i], n < due ? -1 : due, () -> x.follow(most));
            }
        }
    }

    /** "NONE if it did not (variables are as they were then)": and so is all else. */
    private static void followThatDidNotComeToItsEnd() {
        Consumer<LabelGuard> start = Twins.STATES.get("compiled");
        for (int n = 0; n <= 3; n++) {
            int few = n;
            TWINS.refused("follow " + n + " of 4", -1, start, x -> x.follow(few));
        }
        TWINS.refused("follow 0 of 1", -1, Twins.STATES.get("verified"), x -> x.follow(0));
        LabelGuard x = compiled("a=5;?a{b=6;*1{c=7;}}{}");
        CHECK.due("what never ends", -1, () -> x.follow(500));
        CHECK.same("as they were", "0 0 0 0 0 0 0 0", Twins.values(x));
    }

    /** "or there is no program". */
    private static void followWithoutAProgram() {
        String[] states = {"new", "shapeless", "full"};
        int[] some = {0, 1, 500};
        for (String state : states) {
            for (int n : some) {
                TWINS.refused("follow " + n + " (" + state + ")", -1, Twins.STATES.get(state), x -> x.follow(n));
            }
        }
    }

    /** The program is the latest that was one, accepted or not; the code may be another's. */
    private static void followOfTheLatestProgram() {
        LabelGuard x = new LabelGuard();
        x.levels(2, Check.order(2, 1));
        x.label(0, 0, 1);
        x.label(1, 1, 0);
        x.set(0, 9);
        CHECK.same("no program", Check.ILLEGAL_ARGUMENT, Check.compiled(x, "b=3"));
        CHECK.due("none", -1, () -> x.follow(500));
        CHECK.same("a program", 3, Check.compiled(x, "b=4;"));
        CHECK.same("too secret", Check.ILLEGAL_STATE, Check.compiled(x, "b=a;"));
        CHECK.same("no program", Check.ILLEGAL_ARGUMENT, Check.compiled(x, "b=5"));
        CHECK.due("follow", "0 9", () -> x.follow(0) + " " + x.get(1));
        CHECK.due("run", "3 4", () -> x.run(3) + " " + x.get(1));
        x.empty();
        CHECK.due("follow without code", "0 9", () -> x.follow(0) + " " + x.get(1));
    }

    /** "An object is used for at most 512 calls": the last ones answer as the first ones do. */
    private static void anObjectServes512Calls() {
        LabelGuard x = new LabelGuard();
        for (int round = 0; round < 51; round++) {
            CHECK.due("write in round " + round, true, () -> Check.writeAll(x, "*a{}".repeat(17) + "h=9;"));
            CHECK.due("compile in round " + round, 54, x::compile);
        }
        CHECK.due("call 511", 54 - 17, () -> x.run(2000));
        CHECK.due("call 512", 9, () -> x.get(7));
        LabelGuard y = new LabelGuard();
        for (int call = 1; call < 512; call += 2) {
            y.put(9, call);
            CHECK.due("call " + (call + 1), 1, y::verify);
        }
    }
}
