import java.util.Set;
import java.util.function.Consumer;

/** The boundary cases of texts and programs: "Terms" on them, and promises 5 to 8, sentence by sentence. */
public final class TextBoundariesTest {
    private static final Check CHECK = new Check();
    private static final Twins TWINS = new Twins(CHECK);
    private static final long TWO = Check.order(2, 1);
    /** 4 below all, 1 above all, 0, 2 and 3 beside one another. */
    private static final long SHUFFLED = Check.order(5, 40, 42, 43, 41, 1, 21, 31);
    private static final String FULL = "a=1;".repeat(18);
    private static final String NAMES = "abcdefgh";
    private static final String DIGITS = "0123456789";
    private static final String ROW = NAMES + "?*";
    private static final String OPERATIONS = "+-*<";

    public static void main(String[] args) {
        upToEightCharacters();
        bytesThatAre0AreLeftOut();
        codesAre32To126();
        aCodeThatIsRefusedChangesNothing();
        theTextHas72Characters();
        moreThanThereIsRoomForChangesNothing();
        aFullTextTakesNothingMore();
        aProgramMayBeNone();
        variablesAreAToH();
        numbersHave1To3Digits();
        whatMayComeNext();
        bracketsAre6Deep();
        bracketsThatAreClosedDoNotCount();
        whatNeedsABracketIsNoError();
        theErrorIsAtTheLengthIfSomethingIsMissing();
        theErrorMayBeAnywhere();
        theFirstErrorCounts();
        theTextBecomesEmptyWhateverComesOfIt();
        noProgramChangesOnlyThePosition();
        tooSecretIsTheProgramThenButTheCodeStays();
        theProgramIsTakenAndItsCodeAccepted();
        exitLabelsAreNotAboveTheirPolicies();
        oneVariableAboveItsPolicyIsEnough();
        positionIsTheLatestCompiles();
        exitWithoutAProgram();
        exitOfNoVariable();
        exitAsWorkedOutThen();
        bottomIfThereAreNoVariables();
        labelsOfBothSides();
        labelsOfALoop();
        labelsOfTheFirstAndTheLastVariable();
        labelsOfTheOuterOne();
        labelsSixDeep();
        argumentsThatMeanNothingAre0();
        codeSixDeep();
        CHECK.end();
    }

    /** Compiles a text on a new object and looks where its error is, -1 if it has none. */
    private static void error(String text, int position) {
        LabelGuard x = new LabelGuard();
        String answer = Check.compiled(x, text);
        CHECK.same("compile " + text + " answers " + answer, position >= 0, answer.equals(Check.ILLEGAL_ARGUMENT));
        CHECK.due("position of " + text, position, x::position);
    }

    private static void listed(String what, String want, LabelGuard x) {
        Check.answer(x::compile);
        CHECK.same(what, want, Check.listing(x));
    }

    /** "Appends up to eight characters to the text, ... the eight bytes of w from the highest on". */
    private static void upToEightCharacters() {
        LabelGuard x = new LabelGuard();
        CHECK.due("none", true, () -> x.write(0L));
        CHECK.due("eight", true, () -> x.write(0x613D313B623D323BL));
        CHECK.due("none between", true, () -> x.write(0L));
        CHECK.due("one, the lowest byte", true, () -> x.write(0x63L));
        CHECK.due("one, the highest byte", true, () -> x.write(0x3D00000000000000L));
        CHECK.due("seven", true, () -> x.write(0x64003B643D333B00L));
        listed("all of them in their order", "0:1 2:0 0:2 2:1 1:3 2:2 0:3 2:3 9:0", x);
    }

    /** "but for those that are 0": wherever the 0 are. */
    private static void bytesThatAre0AreLeftOut() {
        String text = "a=1;b=2;";
        for (int mask = 0; mask < 256; mask++) {
            long w = 0;
            int used = 0;
            for (int i = 0; i < 8; i++) {
                boolean some = (mask & 128 >> i) != 0;
                w = w << 8 | (some ? text.charAt(used) : 0);
                used += some ? 1 : 0;
            }
            long bytes = w;
            LabelGuard x = new LabelGuard();
            CHECK.due("bytes " + Long.toHexString(w), true, () -> x.write(bytes));
            x.write(Check.packed(text.substring(used)));
            listed("bytes " + Long.toHexString(w), "0:1 2:0 0:2 2:1 9:0", x);
        }
    }

    /** "False, ... if one of the others is not 32 .. 126": each code at each place. */
    private static void codesAre32To126() {
        for (int shift = 0; shift < 64; shift += 8) {
            LabelGuard x = new LabelGuard();
            int taken = 0;
            for (long code = 0; code < 256; code++) {
                long w = code << shift;
                boolean fits = code == 0 || code >= 32 && code <= 126;
                if (taken == 70) {
                    Check.answer(x::compile);
                    taken = 0;
                }
                CHECK.due("code " + code + " at " + shift, fits, () -> x.write(w));
                taken += fits ? 1 : 0;
            }
        }
    }

    /** "False, changing nothing": not even what stands before the wrong one is written. */
    private static void aCodeThatIsRefusedChangesNothing() {
        int[] codes = {1, 31, 127, 128, 255};
        for (int code : codes) {
            TWINS.refusedAlways("code " + code + " first", false, x -> x.write((long) code << 56 | 0x39L));
            TWINS.refusedAlways("code " + code + " last", false, x -> x.write(0x3939390000000000L | code));
            TWINS.refusedAlways("code " + code + " alone", false, x -> x.write(code));
        }
    }

    /** "THE TEXT has at most 72 characters": some are there, and up to eight more come. */
    private static void theTextHas72Characters() {
        for (int there = 60; there <= 72; there++) {
            for (int more = 0; more <= 8; more++) {
                LabelGuard x = new LabelGuard();
                Check.writeAll(x, FULL.substring(0, there));
                boolean fits = there + more <= 72;
                String rest = (FULL + FULL).substring(there, there + more);
                CHECK.due(more + " more than " + there, fits, () -> x.write(Check.packed(rest)));
                int length = fits ? there + more : there;
                boolean whole = length % 4 == 0;
                CHECK.due("then compile", whole ? length / 2 + 1 : Check.ILLEGAL_ARGUMENT, x::compile);
                CHECK.due("then position", whole ? -1 : length, x::position);
            }
        }
        LabelGuard x = new LabelGuard();
        for (int many = 0; many <= 72; many++) {
            CHECK.due("character " + many, many < 72, () -> x.write(Check.packed("h")));
        }
    }

    /** "False, changing nothing, if ... they are more than there is room for". */
    private static void moreThanThereIsRoomForChangesNothing() {
        for (int there = 65; there <= 72; there++) {
            String text = "a=1;".repeat(16) + "b=".repeat(4).substring(0, there - 64);
            String more = "7;a=1;b=".substring(0, 73 - there);
            for (String state : Twins.STATES.keySet()) {
                Consumer<LabelGuard> start = x -> {
                    Twins.STATES.get(state).accept(x);
                    Check.writeAll(x, text);
                };
                TWINS.refused("one more than " + there + " and room (" + state + ")", false, start,
                        x -> x.write(Check.packed(more)));
            }
        }
    }

    /** A full text has room for none, which is not more than that; and it is taken as it is. */
    private static void aFullTextTakesNothingMore() {
        LabelGuard x = new LabelGuard();
        Check.writeAll(x, FULL);
        CHECK.due("one more", false, () -> x.write(Check.packed("a")));
        CHECK.due("eight more", false, () -> x.write(Check.packed("a=1;a=1;")));
        CHECK.due("none more", true, () -> x.write(0L));
        CHECK.due("compile", 37, x::compile);
        CHECK.due("room again", true, () -> Check.writeAll(x, FULL));
        CHECK.due("but no more", false, () -> x.write(Check.packed("a")));
    }

    /** "A PROGRAM is a row of STATEMENTS, also none": the whole, and each one inside. */
    private static void aProgramMayBeNone() {
        String[][] due = {{"", "9:0"}, {"?a{}{}", "1:0 7:3 8:3 9:0"}, {"*a{}", "1:0 7:3 8:0 9:0"},
            {"?a{b=1;}{}", "1:0 7:5 0:1 2:1 8:5 9:0"}, {"?a{}{b=1;}", "1:0 7:3 8:5 0:1 2:1 9:0"}};
        for (String[] one : due) {
            LabelGuard x = new LabelGuard();
            Check.writeAll(x, one[0]);
            listed("the code of " + one[0], one[1], x);
            CHECK.due("no error in " + one[0], -1, x::position);
        }
    }

    /** "VARIABLES are a .. h". */
    private static void variablesAreAToH() {
        for (char c = 32; c <= 126; c++) {
            boolean there = c >= 'a' && c <= 'h';
            if (c != '?' && c != '*') {
                error(c + "=1;", there ? -1 : 0);
            }
            if (c < '0' || c > '9') {
                error("a=" + c + ";", there ? -1 : c == '(' ? 3 : 2);
            }
        }
    }

    /** "An expression is 1 to 3 digits". */
    private static void numbersHave1To3Digits() {
        error("a=;", 2);
        error("a=1234;", 5);
        error("a=0000;", 5);
        error("a=(1+1234);", 8);
        error("*1234{}", 4);
        String[][] due = {{"0", "0"}, {"9", "9"}, {"10", "10"}, {"99", "99"}, {"00", "0"}, {"000", "0"},
            {"007", "7"}, {"100", "100"}, {"999", "999"}};
        for (String[] one : due) {
            LabelGuard x = new LabelGuard();
            Check.writeAll(x, "a=" + one[0] + ";");
            listed("the number " + one[0], "0:" + one[1] + " 2:0 9:0", x);
        }
    }

    /** A beginning of a program, and each character behind it: just some do not make an error there. */
    private static void next(String start, String allowed) {
        LabelGuard x = new LabelGuard();
        String itself = Check.compiled(x, start);
        boolean missing = itself.equals(Check.ILLEGAL_ARGUMENT);
        CHECK.due("only something is missing in " + start, missing ? start.length() : -1, x::position);
        for (char c = 32; c <= 126; c++) {
            LabelGuard y = new LabelGuard();
            boolean threw = Check.compiled(y, start + c).equals(Check.ILLEGAL_ARGUMENT);
            int length = start.length();
            int want = allowed.indexOf(c) < 0 ? length : threw ? length + 1 : -1;
            CHECK.due("position of " + start + c, want, y::position);
        }
    }

    /** "an ERROR at the first position that no program has that begins as the text does up to there". */
    private static void whatMayComeNext() {
        String first = DIGITS + NAMES + "(";
        String[] ends = {"", "a=1;", "?a{}{}", "*a{}", "?a{}{}*a{}", "a=(b+c);"};
        for (String end : ends) {
            next(end, ROW);
            next("?a{" + end, ROW + "}");
            next("?a{}{" + end, ROW + "}");
            next("*a{" + end, ROW + "}");
            next("?a{" + end + "}", "{");
        }
        String[] heads = {"h=", "?", "*", "a=(", "a=(b-", "?(", "*((1+2)*", "?a{}{b="};
        for (String head : heads) {
            next(head, first);
        }
        next("a", "=");
        next("?a{b", "=");
        next("a=h", ";");
        next("a=(b<c)", ";");
        next("a=1", DIGITS + ";");
        next("a=12", DIGITS + ";");
        next("a=123", ";");
        next("?a", "{");
        next("*h", "{");
        next("*(a*b)", "{");
        next("?1", DIGITS + "{");
        next("?12", DIGITS + "{");
        next("?123", "{");
        next("a=(b", OPERATIONS);
        next("a=((b+c)", OPERATIONS);
        next("a=(1", DIGITS + OPERATIONS);
        next("a=(123", OPERATIONS);
        next("a=(b+c", ")");
        next("a=(b+(c+d)", ")");
        next("a=(b+1", DIGITS + ")");
        next("a=(b+123", ")");
    }

    /** "Brackets of both kinds are at most 6 deep in one another": any many of one kind in the other. */
    private static void bracketsAre6Deep() {
        for (int outer = 0; outer <= 6; outer++) {
            for (int inner = 0; inner <= 4; inner++) {
                String before = "*a{".repeat(outer);
                String left = "b=" + "(".repeat(inner) + "1" + "+1)".repeat(inner) + ";";
                String right = "b=" + "(1+".repeat(inner) + "1" + ")".repeat(inner) + ";";
                String condition = "?" + "(".repeat(inner) + "1" + "+1)".repeat(inner) + "{";
                boolean fits = outer + inner <= 6;
                int over = before.length() + 2 + 6 - outer;
                error(before + left + "}".repeat(outer), fits ? -1 : over);
                error(before + right + "}".repeat(outer), fits ? -1 : before.length() + 2 + 3 * (6 - outer));
                boolean blockFits = fits && outer < 6;
                error(before + condition, !fits ? over - 1 : (before + condition).length() - (blockFits ? 0 : 1));
            }
        }
        error("a=" + "(".repeat(6) + "1" + "+1)".repeat(6) + ";", -1);
        error("a=" + "(".repeat(7) + "1" + "+1)".repeat(7) + ";", 8);
        error("a=" + "(1+".repeat(6) + "1" + ")".repeat(6) + ";", -1);
        error("a=" + "(1+".repeat(7) + "1" + ")".repeat(7) + ";", 20);
        error("?a{".repeat(6) + "}{}".repeat(6), -1);
        error("?a{".repeat(7) + "}{}".repeat(7), 20);
        error("?a{}{".repeat(6) + "}".repeat(6), -1);
        error("?a{}{".repeat(6) + "?a{}{", 32);
        error("*a{".repeat(5) + "?a{}{*a{}}" + "}".repeat(5), 22);
    }

    /** "deep in one another": those that are closed before the next one opens are not. */
    private static void bracketsThatAreClosedDoNotCount() {
        error("*a{}".repeat(18), -1);
        error("?a{}{}".repeat(12), -1);
        error("*a{".repeat(5) + "*a{}?a{}{}*(a+b){}b=(c+d);" + "}".repeat(5), -1);
        error("*a{".repeat(5) + "*(a+b){}*(a+b){c=(d+1);", 32);
        error("a=(((((((1+2)+3)+4)+5)+6)+7)+8);", 8);
        error("a=((((((1+2)+(3+4))+5)+6)+(7*8))+(9+(1+(2+3))));", -1);
        error("*((((((a+1)+1)+1)+1)+1)+1){*a{*a{*a{*a{*a{}}}}}}", -1);
        error("*((((((a+1)+1)+1)+1)+1)+1){*a{*a{*a{*a{*a{*a{}}}}}}}", 44);
    }

    /** "a bracket that is too deep is such a position, but not the ? or * that would need one". */
    private static void whatNeedsABracketIsNoError() {
        String deep = "*a{".repeat(6);
        next(deep, ROW + "}");
        next(deep + "*", DIGITS + NAMES);
        next(deep + "?", DIGITS + NAMES);
        next(deep + "*a", "");
        next(deep + "?h", "");
        next(deep + "*1", DIGITS);
        next(deep + "?12", DIGITS);
        next(deep + "?123", "");
        next(deep + "b", "=");
        next(deep + "b=", DIGITS + NAMES);
        next("*a{".repeat(5) + "b=(", DIGITS + NAMES);
        next("*a{".repeat(5) + "b=(1+", DIGITS + NAMES);
        next("*a{".repeat(5) + "*(1+b)", "{");
        next("*a{".repeat(5) + "*", DIGITS + NAMES + "(");
        next("a=((((((", DIGITS + NAMES);
        next("a=(((((", DIGITS + NAMES + "(");
        next("a=((((((1+", DIGITS + NAMES);
        next("a=((((((1+2)+", DIGITS + NAMES + "(");
    }

    /** Some beginnings of a program are programs, all others lack something only. */
    private static void beginnings(String program, Set<Integer> whole) {
        for (int length = 0; length <= program.length(); length++) {
            error(program.substring(0, length), whole.contains(length) ? -1 : length);
        }
    }

    /** "(the length, if only something is missing": every beginning of some programs, and 72 characters. */
    private static void theErrorIsAtTheLengthIfSomethingIsMissing() {
        beginnings("a=((b-123)<c);?(a*2){b=c;}{*d{e=1;}}h=0;", Set.of(0, 14, 36, 40));
        beginnings("?1{?2{}{a=3;}}{}*(a<(b+c)){d=e;}", Set.of(0, 16, 32));
        beginnings("*a{*b{}}?c{}{}h=0;", Set.of(0, 8, 14, 18));
        String nearly = FULL.substring(0, 68);
        error(nearly + "a=12", 72);
        error(nearly + "a=(b", 72);
        error(nearly + "?a{}", 72);
        error(nearly + "*a{?", 72);
        error(nearly + "*a{}", -1);
    }

    /** The first position and the last one, and each between. */
    private static void theErrorMayBeAnywhere() {
        for (int length = 0; length < 72; length++) {
            error(FULL.substring(0, length) + "~", length);
            error(FULL.substring(0, length) + " ", length);
        }
    }

    /** "the FIRST position that no program has". */
    private static void theFirstErrorCounts() {
        error("}a=1;{", 0);
        error("a=1;;;", 4);
        error("a=i;j=1;", 2);
        error("?a{b}{c}", 4);
        error("*a{".repeat(7) + "~", 20);
        error("((((((((", 0);
    }

    /** "Takes the text, which becomes empty whatever comes of it". */
    private static void theTextBecomesEmptyWhateverComesOfIt() {
        String[] texts = {"b=1;", "b=1", "b=a;", "~", FULL, FULL.substring(0, 71)};
        String[] answers = {"3", Check.ILLEGAL_ARGUMENT, Check.ILLEGAL_STATE, Check.ILLEGAL_ARGUMENT, "37",
            Check.ILLEGAL_ARGUMENT};
        for (int i = 0; i < texts.length; i++) {
            LabelGuard x = new LabelGuard();
            x.levels(2, TWO);
            x.label(0, 0, 1);
            x.label(1, 1, 0);
            CHECK.same("compile " + texts[i], answers[i], Check.compiled(x, texts[i]));
            CHECK.due("the text is empty", 1, x::compile);
            CHECK.same("compile again " + texts[i], answers[i], Check.compiled(x, texts[i]));
            CHECK.due("there is room for 72", true, () -> Check.writeAll(x, FULL));
            CHECK.due("and not for more", false, () -> x.write(Check.packed(" ")));
        }
    }

    /** "IllegalArgumentException if it is none (the program before stays)", and so does all else. */
    private static void noProgramChangesOnlyThePosition() {
        for (String state : Twins.STATES.keySet()) {
            Consumer<LabelGuard> start = Twins.STATES.get(state);
            TWINS.changed("no program (" + state + ")", Check.ILLEGAL_ARGUMENT, start,
                    x -> Check.compiled(x, "a=1;c=b;d=0;e"), Set.of("position"));
            TWINS.changed("an error at 0 (" + state + ")", Check.ILLEGAL_ARGUMENT, start,
                    x -> Check.compiled(x, "~"), Set.of("position"));
        }
    }

    /** "IllegalStateException if an exit label is above its policy (it is the program then, but the code stays)". */
    private static void tooSecretIsTheProgramThenButTheCodeStays() {
        String[] states = {"compiled", "verified", "unsafe", "shapeless", "full"};
        for (String state : states) {
            Set<String> named = state.equals("compiled") || state.equals("shapeless")
                    ? Set.of("exit", "follow", "position") : Set.of("exit", "follow");
            TWINS.changed("too secret (" + state + ")", Check.ILLEGAL_STATE, Twins.STATES.get(state),
                    x -> Check.compiled(x, "e=b;f=h;g=77;"), named);
        }
    }

    /** "its code becomes the code, accepted": nothing is left of the code before, be it longer, and of its labels. */
    private static void theProgramIsTakenAndItsCodeAccepted() {
        for (String state : Twins.STATES.keySet()) {
            LabelGuard x = new LabelGuard();
            Twins.STATES.get(state).accept(x);
            CHECK.same("compile (" + state + ")", 3, Check.compiled(x, "g=77;"));
            CHECK.same("the code (" + state + ")", "0:77 2:6 9:0", Check.listing(x));
            CHECK.due("nothing behind it (" + state + ")", -1, () -> x.code(3, 0));
            CHECK.due("no labels of it (" + state + ")", -1, () -> x.found(0, 0));
            CHECK.due("no error (" + state + ")", -1, x::position);
            CHECK.due("it runs (" + state + ")", "3 77", () -> x.run(3) + " " + x.get(6));
            CHECK.due("it is followed (" + state + ")", 0, () -> x.follow(0));
        }
    }

    /** "if an exit label is above its policy": the same one is not above, one beside is. */
    private static void exitLabelsAreNotAboveTheirPolicies() {
        for (int v = 0; v < 8; v++) {
            for (int label = 0; label < 5; label++) {
                for (int policy = 0; policy < 5; policy++) {
                    LabelGuard x = new LabelGuard();
                    x.levels(5, SHUFFLED);
                    x.label(0, v, label);
                    x.label(1, v, policy);
                    boolean notAbove = label == policy || label == 4 || policy == 1;
                    CHECK.due("exit " + label + ", policy " + policy, notAbove ? 1 : Check.ILLEGAL_STATE, x::compile);
                }
            }
        }
    }

    private static void oneVariableAboveItsPolicyIsEnough() {
        for (int v = 0; v < 8; v++) {
            LabelGuard x = new LabelGuard();
            x.levels(2, TWO);
            for (int other = 0; other < 8; other++) {
                x.label(0, other, 1);
            }
            CHECK.due("all at their policies", 1, x::compile);
            x.label(1, v, 0);
            CHECK.due("one above", Check.ILLEGAL_STATE, x::compile);
            char name = (char) ('a' + v);
            CHECK.same("one below now", 3, Check.compiled(x, name + "=0;"));
        }
    }

    /** "The position of the error, if compile threw IllegalArgumentException latest; NONE otherwise". */
    private static void positionIsTheLatestCompiles() {
        LabelGuard x = new LabelGuard();
        x.levels(2, TWO);
        x.label(0, 0, 1);
        x.label(1, 1, 0);
        CHECK.due("before any", -1, x::position);
        Check.writeAll(x, "~");
        CHECK.due("before it is compiled", -1, x::position);
        CHECK.due("an error", Check.ILLEGAL_ARGUMENT, x::compile);
        CHECK.due("its position", 0, x::position);
        CHECK.due("another one", Check.ILLEGAL_ARGUMENT, () -> Check.answer(() -> Check.compiled(x, "b=1")));
        CHECK.due("another position", 3, x::position);
        x.write(Check.packed("b=a;"));
        x.put(9, 0);
        CHECK.due("verify", 1, x::verify);
        x.empty();
        CHECK.due("a verify that throws is no compile", Check.ILLEGAL_ARGUMENT, x::verify);
        CHECK.due("levels that throw are none", Check.ILLEGAL_ARGUMENT, () -> x.levels(0, 0L));
        CHECK.due("run that throws is none", Check.ILLEGAL_ARGUMENT, () -> x.run(-1));
        CHECK.due("the same position", 3, x::position);
        CHECK.due("too secret", Check.ILLEGAL_STATE, x::compile);
        CHECK.due("none then", -1, x::position);
        CHECK.same("an error", Check.ILLEGAL_ARGUMENT, Check.compiled(x, "?"));
        CHECK.due("its position", 1, x::position);
        CHECK.due("a program", 1, x::compile);
        CHECK.due("none", -1, x::position);
    }

    /** "NONE without a program": a text that is none makes none, one that is too secret does. */
    private static void exitWithoutAProgram() {
        LabelGuard x = new LabelGuard();
        x.levels(2, TWO);
        x.label(0, 0, 1);
        x.label(1, 1, 0);
        CHECK.same("no program", "-1 ".repeat(10), Twins.exits(x));
        CHECK.same("an error", Check.ILLEGAL_ARGUMENT, Check.compiled(x, "b=a"));
        CHECK.same("no program still", "-1 ".repeat(10), Twins.exits(x));
        x.put(9, 0);
        CHECK.due("code of another origin", 1, x::verify);
        CHECK.same("is no program", "-1 ".repeat(10), Twins.exits(x));
        CHECK.due("nor is it followed", -1, () -> x.follow(500));
        CHECK.same("too secret", Check.ILLEGAL_STATE, Check.compiled(x, "b=a;"));
        CHECK.same("a program", "-1 1 1 0 0 0 0 0 0 -1 ", Twins.exits(x));
    }

    /** "NONE ... if there is no such variable". */
    private static void exitOfNoVariable() {
        LabelGuard x = new LabelGuard();
        x.levels(2, TWO);
        x.label(0, 0, 1);
        x.label(0, 7, 1);
        CHECK.due("compile", 1, x::compile);
        CHECK.due("the first one", 1, () -> x.exit(0));
        CHECK.due("the last one", 1, () -> x.exit(7));
        int[] none = {-1, 8, Integer.MIN_VALUE, Integer.MAX_VALUE};
        for (int v : none) {
            CHECK.due("no variable " + v, -1, () -> x.exit(v));
            TWINS.refusedAlways("exit " + v, -1, y -> y.exit(v));
        }
    }

    /** "as worked out when the program was compiled": labels and levels that are set later do not matter. */
    private static void exitAsWorkedOutThen() {
        LabelGuard x = new LabelGuard();
        x.levels(5, SHUFFLED);
        x.label(0, 0, 2);
        CHECK.same("compile", 3, Check.compiled(x, "h=a;"));
        String due = "-1 2 4 4 4 4 4 4 2 -1 ";
        CHECK.same("exit", due, Twins.exits(x));
        x.label(0, 0, 3);
        x.label(1, 7, 4);
        CHECK.same("exit after label", due, Twins.exits(x));
        x.levels(1, 1L);
        CHECK.same("exit after levels", due, Twins.exits(x));
        CHECK.same("an error", Check.ILLEGAL_ARGUMENT, Check.compiled(x, "h=0"));
        x.empty();
        CHECK.same("exit after all that", due, Twins.exits(x));
    }

    private static void exits(String entries, String text, String want) {
        LabelGuard x = new LabelGuard();
        x.levels(5, SHUFFLED);
        for (int v = 0; v < entries.length(); v++) {
            x.label(0, v, entries.charAt(v) - '0');
        }
        Check.compiled(x, text);
        CHECK.same("exits of " + text, "-1 " + want.replaceAll(".", "$0 ") + "-1 ", Twins.exits(x));
    }

    /** "(level BOTTOM, the one below all, if there are none)": it is 4 here. */
    private static void bottomIfThereAreNoVariables() {
        exits("11111111", "a=0;h=(1+(2*999));", "41111114");
        exits("11111111", "?1{a=0;}{a=1;}*0{}", "41111111");
        exits("11111111", "", "11111111");
        exits("02344444", "d=(a+1);e=(1+b);f=(c+g);", "02302344");
        exits("02344444", "d=(a+b);e=(a-a);f=(c<(c*2));", "02310344");
    }

    /** "? e: ... from the same labels, both programs; each variable has the join of what both give". */
    private static void labelsOfBothSides() {
        exits("02344444", "?g{d=a;}{d=b;}", "02314444");
        exits("02344444", "?a{d=1;}{}", "02304444");
        exits("02344444", "?a{}{d=1;}", "02304444");
        exits("02344444", "?a{}{}", "02344444");
        exits("02344444", "?a{d=e;e=b;}{e=d;}", "02301444");
        exits("12344444", "?g{a=1;}{}", "12344444");
        exits("12344444", "?g{a=1;}{a=2;}", "42344444");
        exits("02344444", "?a{?b{d=1;}{e=1;}f=1;}{}g=1;", "02311044");
    }

    /** "* e: the least labels ... what the program gives is joined to them until nothing changes". */
    private static void labelsOfALoop() {
        exits("02344444", "*g{}", "02344444");
        exits("12344444", "*g{a=1;}", "12344444");
        exits("02344444", "*a{a=0;d=1;}e=1;", "02304444");
        exits("04444444", "*h{h=g;g=f;f=e;e=d;d=c;c=b;b=a;}", "00000000");
        exits("04444444", "*1{h=g;g=f;f=e;e=d;d=c;c=b;b=a;}", "00000000");
        exits("04444444", "*1{b=a;c=b;d=c;e=d;f=e;g=f;h=g;}", "00000000");
        exits("02444444", "*c{d=1;c=a;}*e{f=1;e=b;}", "02002244");
        exits("02444444", "*c{*d{e=1;d=a;}c=b;}", "02211444");
    }

    /** Joined and looked at are all labels, a's and h's too. */
    private static void labelsOfTheFirstAndTheLastVariable() {
        exits("04444443", "?b{h=a;}{}", "04444441");
        exits("04444443", "?b{a=h;}{}", "14444443");
        exits("04444443", "?b{h=a;}{g=h;}", "04444431");
        exits("04444443", "?b{a=h;}{g=a;}", "14444403");
        exits("04444443", "*b{h=a;}", "04444441");
        exits("04444443", "*b{a=h;}", "14444443");
        exits("44444443", "*b{c=a;a=h;}", "34344443");
        exits("04444444", "*b{c=h;h=a;}", "04044440");
    }

    /** "from the same labels, both programs", "the labels before": those of the outer one, whatever is inside. */
    private static void labelsOfTheOuterOne() {
        exits("04444443", "?b{h=a;?b{}{}}{g=h;}", "04444431");
        exits("04444443", "?b{h=a;}{?b{}{}}", "04444441");
        exits("04444443", "?b{h=a;*b{}}{}", "04444441");
        exits("04444443", "?b{h=a;}{*b{}}", "04444441");
        exits("04444443", "*b{h=a;*b{}}", "04444441");
        exits("04444443", "*b{h=a;?b{}{}}", "04444441");
    }

    private static void reaches(String text, String names) {
        for (int i = 0; i < names.length(); i++) {
            LabelGuard x = new LabelGuard();
            x.levels(2, TWO);
            x.label(0, names.charAt(i) - 'a', 1);
            Check.compiled(x, text);
            CHECK.due(names.charAt(i) + " reaches h in " + text, 1, () -> x.exit(7));
        }
        LabelGuard x = new LabelGuard();
        x.levels(2, TWO);
        x.label(0, 7, 1);
        Check.compiled(x, text);
        boolean always = text.startsWith("h");
        CHECK.due("what h had in " + text, always ? 0 : 1, () -> x.exit(7));
    }

    /** Six brackets in one another are a program's, so labels go through all of them. */
    private static void labelsSixDeep() {
        reaches("?a{?b{?c{?d{?e{?f{h=g;}{}}{}}{}}{}}{}}{}", "abcdefg");
        reaches("?a{}{?b{}{?c{}{?d{}{?e{}{?f{}{h=g;}}}}}}", "abcdefg");
        reaches("*a{*b{*c{*d{*e{*f{h=g;}}}}}}", "abcdefg");
        reaches("h=((((((a+b)+c)+d)+e)+f)+g);", "abcdefg");
        reaches("h=(a+(b+(c+(d+(e+(f+g))))));", "abcdefg");
        reaches("?((((((a+b)+c)+d)+e)+f)+g){h=1;}{}", "abcdefg");
        reaches("*(a+(b+(c+(d+(e+(f+g)))))){h=1;}", "abcdefg");
    }

    /** "Arguments that mean nothing are 0". */
    private static void argumentsThatMeanNothingAre0() {
        LabelGuard x = new LabelGuard();
        Check.putAll(x, 3, 7, 3, 7, 3, 7, 3, 7, 3, 7, 3, 7, 3, 7);
        Check.writeAll(x, "a=(((9-8)*(7+6))<5);");
        listed("operations and END", "0:9 0:8 4:0 0:7 0:6 3:0 5:0 0:5 6:0 2:0 9:0", x);
    }

    /** The code of what is six deep is all there. */
    private static void codeSixDeep() {
        LabelGuard x = new LabelGuard();
        Check.writeAll(x, "?1{?2{?3{?4{?5{?6{a=7;}{}}{}}{}}{}}{}}{}");
        listed("the first programs of ?", "0:1 7:20 0:2 7:19 0:3 7:18 0:4 7:17 0:5 7:16 0:6 7:15 0:7 2:0 "
                + "8:15 8:16 8:17 8:18 8:19 8:20 9:0", x);
        Check.writeAll(x, "?1{}{?2{}{?3{}{?4{}{?5{}{?6{}{a=7;}}}}}}");
        listed("the second programs of ?", "0:1 7:3 8:20 0:2 7:6 8:20 0:3 7:9 8:20 0:4 7:12 8:20 0:5 7:15 8:20 "
                + "0:6 7:18 8:20 0:7 2:0 9:0", x);
        Check.writeAll(x, "*1{*2{*3{*4{*5{*6{a=7;}}}}}}");
        listed("the programs of *", "0:1 7:20 0:2 7:19 0:3 7:18 0:4 7:17 0:5 7:16 0:6 7:15 0:7 2:0 "
                + "8:10 8:8 8:6 8:4 8:2 8:0 9:0", x);
        Check.writeAll(x, "a=((((((1+2)+3)+4)+5)+6)+7);");
        listed("brackets on the left", "0:1 0:2 3:0 0:3 3:0 0:4 3:0 0:5 3:0 0:6 3:0 0:7 3:0 2:0 9:0", x);
        Check.writeAll(x, "a=(1-(2-(3-(4-(5-(6-7))))));");
        listed("brackets on the right", "0:1 0:2 0:3 0:4 0:5 0:6 0:7 4:0 4:0 4:0 4:0 4:0 4:0 2:0 9:0", x);
    }
}
