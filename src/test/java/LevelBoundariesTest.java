import java.util.function.Consumer;

/** The boundary cases of levels and labels: "Terms" on levels, and promises 1 to 4, sentence by sentence. */
public final class LevelBoundariesTest {
    private static final Check CHECK = new Check();
    private static final Twins TWINS = new Twins(CHECK);
    private static final int[] FAR = {Integer.MIN_VALUE, Integer.MAX_VALUE};
    /** Seven levels beside one another, and two lattices of seven, if bit 6 * a + b is read for seven. */
    private static final long[] SEVEN = {0x40810204081L, 0x428FF286083L, 0x428D7FC6083L};
    /** 4 below all, 1 above all, 0, 2 and 3 beside one another. */
    private static final long SHUFFLED = Check.order(5, 40, 42, 43, 41, 1, 21, 31);

    public static void main(String[] args) {
        theStatesAreWhatTheyAreCalled();
        aNewObjectHasOneLevel();
        aNewObjectHasNoProgramAndNoCode();
        aNewObjectLetsNothingBut0Out();
        levelsAreBelowN();
        levelsAre1To6();
        bitsOfOthersMeanNothing();
        everyBitOfAChainMeansSomething();
        eachLevelIsNotAboveItself();
        differentOnesAreNotAboveEachOther();
        whatIsNotAbovePassesOn();
        everyTwoHaveAJoin();
        everyTwoHaveAMeet();
        noOrderIsTheWorseFault();
        entryIsTheLowestLevel();
        policyIsTheHighestLevel();
        levelsSetBothAgain();
        levelsThatThrowChangeNothing();
        joinOfNoLevel();
        joinIsTheLeast();
        labelOfNoVariable();
        labelOfNoSide();
        labelOfNoLevel();
        labelTakesTheEnds();
        CHECK.end();
    }

    private static LabelGuard guard(int n, long below) {
        LabelGuard x = new LabelGuard();
        CHECK.due("levels " + n + " " + below, true, () -> x.levels(n, below));
        return x;
    }

    private static boolean notAbove(long below, int a, int b) {
        return (below >>> (6 * a + b) & 1) == 1;
    }

    private static long chain(int n) {
        long below = 0;
        for (int a = 0; a < n; a++) {
            for (int b = a; b < n; b++) {
                below |= 1L << (6 * a + b);
            }
        }
        return below;
    }

    private static long upsideDown(int n) {
        long below = 0;
        for (int a = 0; a < n; a++) {
            for (int b = 0; b <= a; b++) {
                below |= 1L << (6 * a + b);
            }
        }
        return below;
    }

    private static void throwsArgument(String what, int n, long below) {
        CHECK.due(what + ": levels " + n + " " + below, Check.ILLEGAL_ARGUMENT,
                () -> new LabelGuard().levels(n, below));
    }

    private static void throwsState(String what, int n, long below) {
        CHECK.due(what + ": levels " + n + " " + below, Check.ILLEGAL_STATE,
                () -> new LabelGuard().levels(n, below));
    }

    /** The twins' states are only worth something if they are accepted, unsafe and so on indeed. */
    private static void theStatesAreWhatTheyAreCalled() {
        String[][] due = {{"new", Check.ILLEGAL_STATE, "-1", "-1"}, {"compiled", "38", "-1", "4"},
            {"verified", "6", "1", "-1"}, {"unsafe", Check.ILLEGAL_STATE, "1", "-1"},
            {"shapeless", Check.ILLEGAL_STATE, "-1", "1"}, {"full", "99", "1", "-1"}};
        for (String[] one : due) {
            LabelGuard x = new LabelGuard();
            Consumer<LabelGuard> state = Twins.STATES.get(one[0]);
            state.accept(x);
            CHECK.due(one[0] + " found", one[2], () -> x.found(0, 0));
            CHECK.due(one[0] + " position", one[3], x::position);
            CHECK.due(one[0] + " run", one[1], () -> x.run(2000));
        }
    }

    /** "One level". */
    private static void aNewObjectHasOneLevel() {
        LabelGuard x = new LabelGuard();
        CHECK.due("new: join 0 0", 0, () -> x.join(0, 0));
        CHECK.due("new: join 0 1", -1, () -> x.join(0, 1));
        CHECK.due("new: join 1 0", -1, () -> x.join(1, 0));
        CHECK.due("new: join 1 1", -1, () -> x.join(1, 1));
        for (int side = 0; side < 2; side++) {
            int s = side;
            CHECK.due("new: the level 0", true, () -> x.label(s, 0, 0));
            CHECK.due("new: no level 1", false, () -> x.label(s, 0, 1));
        }
    }

    /** "no program, no code; nothing accepted". */
    private static void aNewObjectHasNoProgramAndNoCode() {
        LabelGuard x = new LabelGuard();
        CHECK.same("new: exit", "-1 ".repeat(10), Twins.exits(x));
        CHECK.due("new: follow", -1, () -> x.follow(500));
        CHECK.due("new: position", -1, x::position);
        CHECK.due("new: how much code", 0, () -> x.code(-1, 0));
        CHECK.due("new: the first one's kind", -1, () -> x.code(0, 0));
        CHECK.due("new: found", -1, () -> x.found(0, 0));
        CHECK.due("new: run", Check.ILLEGAL_STATE, () -> x.run(2000));
        CHECK.due("new: run none", Check.ILLEGAL_STATE, () -> x.run(0));
        CHECK.due("new: verify", Check.ILLEGAL_ARGUMENT, x::verify);
        CHECK.same("new: values", "0 0 0 0 0 0 0 0", Twins.values(x));
        CHECK.due("new: the text is empty", 1, x::compile);
    }

    /** "entry and policy labels 0". */
    private static void aNewObjectLetsNothingBut0Out() {
        LabelGuard x = new LabelGuard();
        CHECK.due("new: compile", 3, () -> Check.compiled(x, "a=h;"));
        CHECK.same("new: entry 0", "-1 0 0 0 0 0 0 0 0 -1 ", Twins.exits(x));
        CHECK.same("new: policy 0", "0 0 0 0 0 0 0 0", Twins.policies(x));
    }

    /** "LEVELS are 0 .. N - 1". */
    private static void levelsAreBelowN() {
        for (int n = 1; n <= 6; n++) {
            LabelGuard x = guard(n, chain(n));
            for (int level = -1; level <= 7; level++) {
                int a = level;
                boolean there = level >= 0 && level < n;
                CHECK.due(n + " levels: join with " + a, there ? a : -1, () -> x.join(a, 0));
                CHECK.due(n + " levels: entry " + a, there, () -> x.label(0, 0, a));
                CHECK.due(n + " levels: policy " + a, there, () -> x.label(1, 0, a));
            }
        }
    }

    /** "IllegalArgumentException if n is not 1 .. 6". */
    private static void levelsAre1To6() {
        guard(1, 1L);
        guard(6, chain(6));
        guard(6, upsideDown(6));
        long[] some = {0L, 1L, chain(6), upsideDown(6), -1L, Long.MAX_VALUE, Long.MIN_VALUE};
        for (long below : some) {
            throwsArgument("too small", 0, below);
            throwsArgument("too small", -1, below);
            throwsArgument("too large", 7, below);
            throwsArgument("far too small", FAR[0], below);
            throwsArgument("far too large", FAR[1], below);
        }
        for (long below : SEVEN) {
            throwsArgument("seven that would do", 7, below);
        }
    }

    /** "(bits of others mean nothing)": each one alone, and all of them. */
    private static void bitsOfOthersMeanNothing() {
        for (int n = 1; n <= 6; n++) {
            long others = 0;
            for (int bit = 0; bit < 64; bit++) {
                if (bit >= 36 || bit / 6 >= n || bit % 6 >= n) {
                    others |= 1L << bit;
                    guard(n, chain(n) | 1L << bit);
                }
            }
            LabelGuard x = guard(n, upsideDown(n) | others);
            for (int a = 0; a <= 6; a++) {
                for (int b = 0; b <= 6; b++) {
                    int p = a;
                    int q = b;
                    CHECK.due("join of " + n, a < n && b < n ? Math.min(a, b) : -1, () -> x.join(p, q));
                }
            }
            CHECK.due("compile with " + n, 1, x::compile);
            CHECK.due("the lowest of " + n, n - 1, () -> x.exit(0));
        }
    }

    /** "level a not above b just if bit 6 * a + b of below is 1": none of them can be turned without a trace. */
    private static void everyBitOfAChainMeansSomething() {
        for (int n = 1; n <= 6; n++) {
            for (int a = 0; a < n; a++) {
                for (int b = 0; b < n; b++) {
                    long turned = chain(n) ^ 1L << (6 * a + b);
                    if (b != a + 1) {
                        throwsArgument("turned " + a + " " + b, n, turned);
                    } else if (a == 0 || b == n - 1) {
                        throwsState("turned " + a + " " + b, n, turned);
                    } else {
                        LabelGuard x = guard(n, turned);
                        int p = a;
                        CHECK.due(p + " and the next are beside each other", p + 2, () -> x.join(p, p + 1));
                    }
                }
            }
        }
    }

    /** "each level not above itself". */
    private static void eachLevelIsNotAboveItself() {
        throwsArgument("the only one", 1, 0L);
        throwsArgument("the only one, others' bits", 1, ~1L);
        for (int n = 2; n <= 6; n++) {
            throwsArgument("the first one", n, chain(n) & ~1L);
            throwsArgument("the last one", n, chain(n) & ~(1L << 7 * (n - 1)));
            throwsArgument("the last one, which is lowest", n, upsideDown(n) & ~(1L << 7 * (n - 1)));
        }
    }

    /** "two different ones not above each other". */
    private static void differentOnesAreNotAboveEachOther() {
        throwsArgument("both of two", 2, Check.order(2, 1, 10));
        throwsArgument("the last of three", 3, Check.order(3, 1, 2, 12, 21));
        throwsArgument("the last of six", 6, chain(6) | 1L << 34);
        throwsArgument("the first of six", 6, chain(6) | 1L << 6);
        throwsArgument("all", 6, (1L << 36) - 1);
    }

    /** "what is not above something is not above what that is not above". */
    private static void whatIsNotAbovePassesOn() {
        throwsArgument("0 1 2", 3, Check.order(3, 1, 12));
        throwsArgument("2 1 0", 3, Check.order(3, 21, 10));
        throwsArgument("1 0 2", 3, Check.order(3, 10, 2));
        throwsArgument("0 2 1", 3, Check.order(3, 2, 21));
        throwsArgument("0 4 5 of six", 6, chain(6) & ~(1L << 5));
        throwsArgument("3 4 5 of six", 6, chain(6) & ~(1L << 23));
        throwsArgument("round", 3, Check.order(3, 1, 12, 20));
    }

    /** "IllegalStateException if two levels have no join". */
    private static void everyTwoHaveAJoin() {
        throwsState("0 below two", 3, Check.order(3, 1, 2));
        throwsState("2 below two", 3, Check.order(3, 20, 21));
        throwsState("5 below five", 6, Check.order(6, 50, 51, 52, 53, 54));
        throwsState("a last pair without one", 6, chain(6) & ~(1L << 29));
        guard(6, chain(6) & ~(1L << 22));
        guard(6, Check.order(6, 1, 2, 3, 4, 5, 15, 25, 35, 45));
    }

    /** "or no meet". */
    private static void everyTwoHaveAMeet() {
        throwsState("2 above two", 3, Check.order(3, 2, 12));
        throwsState("0 above two", 3, Check.order(3, 10, 20));
        throwsState("5 above five", 6, Check.order(6, 5, 15, 25, 35, 45));
        throwsState("a first pair without one", 6, chain(6) & ~(1L << 1));
        throwsState("neither", 2, Check.order(2));
        throwsState("upper ones, but no least, and lower ones, but no highest", 6,
                Check.order(6, 1, 2, 3, 4, 5, 13, 14, 15, 23, 24, 25, 35, 45));
    }

    /** "no order" is named before "no join or no meet", which are an order's. */
    private static void noOrderIsTheWorseFault() {
        throwsArgument("no order and no join", 3, Check.order(3, 1, 2) & ~(1L << 14));
        throwsArgument("no order and no meet", 4, Check.order(4, 3, 13, 23, 10, 1));
        throwsArgument("no bits", 6, 0L);
    }

    /** "entry labels become the lowest level". */
    private static void entryIsTheLowestLevel() {
        for (int n = 1; n <= 6; n++) {
            lowest(n, chain(n), 0);
            lowest(n, upsideDown(n), n - 1);
        }
        lowest(5, SHUFFLED, 4);
    }

    private static void lowest(int n, long below, int level) {
        LabelGuard x = guard(n, below);
        CHECK.due("compile none", 1, x::compile);
        CHECK.same("the lowest of " + below, "-1" + (" " + level).repeat(8) + " -1 ", Twins.exits(x));
    }

    /** "policies the highest one": it lets all out, so every level is let out. */
    private static void policyIsTheHighestLevel() {
        for (int n = 1; n <= 6; n++) {
            String all = "012345".substring(0, n);
            CHECK.same("the highest of " + n, (all + " ").repeat(7) + all, Twins.policies(guard(n, chain(n))));
            CHECK.same("upside down", (all + " ").repeat(7) + all, Twins.policies(guard(n, upsideDown(n))));
        }
        CHECK.same("shuffled", "01234 ".repeat(7) + "01234", Twins.policies(guard(5, SHUFFLED)));
    }

    /** "entry labels become the lowest level, policies the highest one", also if the levels are the same again. */
    private static void levelsSetBothAgain() {
        for (int v = 0; v < 8; v++) {
            int variable = v;
            LabelGuard x = guard(2, chain(2));
            x.label(0, v, 1);
            x.label(1, v, 0);
            CHECK.due("too secret", Check.ILLEGAL_STATE, x::compile);
            CHECK.due("the same again", true, () -> x.levels(2, chain(2)));
            CHECK.due("not secret", "1 0", () -> x.compile() + " " + x.exit(variable));
            x.label(0, v, 1);
            CHECK.due("let out", "1 1", () -> x.compile() + " " + x.exit(variable));
        }
    }

    /** "(What throws changes nothing.)". */
    private static void levelsThatThrowChangeNothing() {
        TWINS.refusedAlways("levels 0", Check.ILLEGAL_ARGUMENT, x -> x.levels(0, 1L));
        TWINS.refusedAlways("levels 7", Check.ILLEGAL_ARGUMENT, x -> x.levels(7, SEVEN[1]));
        TWINS.refusedAlways("not above itself", Check.ILLEGAL_ARGUMENT, x -> x.levels(6, chain(6) & ~(1L << 35)));
        TWINS.refusedAlways("above each other", Check.ILLEGAL_ARGUMENT, x -> x.levels(6, chain(6) | 1L << 34));
        TWINS.refusedAlways("not passed on", Check.ILLEGAL_ARGUMENT, x -> x.levels(6, chain(6) & ~(1L << 23)));
        TWINS.refusedAlways("no join", Check.ILLEGAL_STATE, x -> x.levels(6, chain(6) & ~(1L << 29)));
        TWINS.refusedAlways("no meet", Check.ILLEGAL_STATE, x -> x.levels(6, chain(6) & ~(1L << 1)));
        TWINS.refusedAlways("neither", Check.ILLEGAL_STATE, x -> x.levels(2, Check.order(2)));
    }

    /** "NONE if there is no such level". */
    private static void joinOfNoLevel() {
        for (int n = 1; n <= 6; n++) {
            LabelGuard x = guard(6, chain(6));
            CHECK.due("fewer levels now", true, () -> x.levels(1, 1L));
            int many = n;
            CHECK.due("as many as are due", true, () -> x.levels(many, chain(many)));
            int[] none = {-1, n, n + 1, 36, FAR[0], FAR[1]};
            for (int level : none) {
                CHECK.due("join " + level + " 0", -1, () -> x.join(level, 0));
                CHECK.due("join the last and " + level, -1, () -> x.join(many - 1, level));
                CHECK.due("join " + level + " twice", -1, () -> x.join(level, level));
            }
            CHECK.due("the last with itself", many - 1, () -> x.join(many - 1, many - 1));
            CHECK.due("the first and the last", many - 1, () -> x.join(0, many - 1));
        }
        TWINS.refusedAlways("join 6 0", -1, x -> x.join(6, 0));
        TWINS.refusedAlways("join 0 -1", -1, x -> x.join(0, -1));
    }

    /** "JOIN (the least level that is not below either)": nothing less will do, and one beside is not above. */
    private static void joinIsTheLeast() {
        long[] all = {chain(5), upsideDown(5), SHUFFLED, Check.order(5, 1, 2, 3, 4, 13, 14, 23, 24, 34)};
        for (long below : all) {
            LabelGuard x = guard(5, below);
            for (int a = 0; a < 5; a++) {
                for (int b = 0; b < 5; b++) {
                    int join = x.join(a, b);
                    boolean least = notAbove(below, a, join) && notAbove(below, b, join);
                    for (int c = 0; c < 5; c++) {
                        boolean upper = notAbove(below, a, c) && notAbove(below, b, c);
                        least &= !upper || notAbove(below, join, c);
                    }
                    CHECK.same("join " + a + " " + b + " of " + below + " is " + join, true, least);
                }
            }
        }
    }

    private static void neverLabelled(String what, int side, int variable, int level) {
        TWINS.refusedAlways(what + ": label " + side + " " + variable + " " + level, false,
                x -> x.label(side, variable, level));
    }

    /** "False if there is no such variable". */
    private static void labelOfNoVariable() {
        int[] none = {-1, 8, FAR[0], FAR[1]};
        for (int variable : none) {
            neverLabelled("no such variable", 0, variable, 0);
            neverLabelled("no such variable", 1, variable, 0);
        }
    }

    /** "False if there is no such ... side". */
    private static void labelOfNoSide() {
        int[] none = {-1, 2, FAR[0], FAR[1]};
        for (int side : none) {
            neverLabelled("no such side", side, 0, 0);
            neverLabelled("no such side", side, 7, 0);
        }
    }

    /** "False if there is no such ... level". */
    private static void labelOfNoLevel() {
        int[] none = {-1, 4, 6, FAR[0], FAR[1]};
        for (int level : none) {
            neverLabelled("no such level", 0, 0, level);
            neverLabelled("no such level", 1, 7, level);
        }
        LabelGuard x = guard(6, chain(6));
        CHECK.due("level 5 of 6", true, () -> x.label(0, 0, 5));
        CHECK.due("fewer levels", true, () -> x.levels(5, chain(5)));
        CHECK.due("level 5 of 5", false, () -> x.label(0, 0, 5));
        CHECK.due("level 4 of 5", true, () -> x.label(0, 0, 4));
    }

    /** "A variable gets an entry label (side 0) or a policy label (side 1): true": the first and last of each. */
    private static void labelTakesTheEnds() {
        for (int v = 0; v < 8; v++) {
            for (int level = 0; level < 6; level++) {
                int variable = v;
                int to = level;
                LabelGuard x = guard(6, upsideDown(6));
                CHECK.due("entry " + v + " " + level, true, () -> x.label(0, variable, to));
                CHECK.due("compile", 1, x::compile);
                StringBuilder want = new StringBuilder("-1 ");
                for (int other = 0; other < 8; other++) {
                    want.append(other == v ? level : 5).append(' ');
                }
                CHECK.same("that one alone", want.append("-1 "), Twins.exits(x));
                LabelGuard y = guard(6, upsideDown(6));
                CHECK.due("policy " + v + " " + level, true, () -> y.label(1, variable, to));
                String[] out = Twins.policies(y).split(" ");
                for (int other = 0; other < 8; other++) {
                    CHECK.same("policy " + other, "012345".substring(other == v ? level : 0), out[other]);
                }
            }
        }
    }
}
