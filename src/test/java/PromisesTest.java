import java.util.Arrays;

/** Each promise by hand: ordinary inputs, the edges that the document names, and wrong inputs. */
public final class PromisesTest {
    private static final Check CHECK = new Check();
    private static final long TWO = Check.order(2, 1);
    private static final long CHAIN3 = Check.order(3, 1, 2, 12);
    private static final long DIAMOND = Check.order(4, 1, 2, 3, 13, 23);
    /** Upside down and shuffled: 4 below all, 1 above all, 0, 2 and 3 beside one another. */
    private static final long SHUFFLED = Check.order(5, 40, 42, 43, 41, 1, 21, 31);

    private static void due(String what, Object want, java.util.concurrent.Callable<?> call) {
        CHECK.due(what, want, call);
    }

    private static LabelGuard guard(int n, long below) {
        LabelGuard x = new LabelGuard();
        x.levels(n, below);
        return x;
    }

    public static void main(String[] args) {
        newObject();
        levels();
        levelsThatThrow();
        join();
        label();
        write();
        errors();
        depths();
        compileAndItsTrace();
        programLabels();
        code();
        codeOfPrograms();
        emptyAndPut();
        shape();
        stackHeights();
        regions();
        codeLabels();
        safety();
        found();
        setAndGet();
        run();
        runWhatIsAccepted();
        follow();
        CHECK.end();
    }

    private static void newObject() {
        LabelGuard x = new LabelGuard();
        due("NONE", -1, () -> LabelGuard.NONE);
        due("one level", "0 -1 -1", () -> x.join(0, 0) + " " + x.join(0, 1) + " " + x.join(1, 1));
        due("no level 1", false, () -> x.label(0, 0, 1));
        due("new position", -1, x::position);
        due("new code", 0, () -> x.code(-1, 0));
        due("new code's first", -1, () -> x.code(0, 0));
        due("new follow", -1, () -> x.follow(0));
        due("new run", Check.ILLEGAL_STATE, () -> x.run(0));
        due("new verify", Check.ILLEGAL_ARGUMENT, x::verify);
        for (int v = -1; v <= 8; v++) {
            int variable = v;
            due("new exit " + v, -1, () -> x.exit(variable));
            due("new get " + v, 0, () -> x.get(variable));
            due("new found " + v, -1, () -> x.found(0, variable));
        }
        LabelGuard y = new LabelGuard();
        due("new text is empty", 1, y::compile);
        for (int v = 0; v < 8; v++) {
            int variable = v;
            due("entry 0", 0, () -> y.exit(variable));
        }
        due("policy 0 lets 0 out", 3, () -> Check.compiled(y, "a=b;"));
    }

    private static void levels() {
        LabelGuard x = new LabelGuard();
        due("one", true, () -> x.levels(1, 1L));
        due("two", true, () -> x.levels(2, TWO));
        due("two, bits of others", true, () -> x.levels(2, TWO | 1L << 2 | 1L << 8 | 1L << 63 | 1L << 36));
        due("join then", 1, () -> x.join(0, 1));
        due("six in a chain, upside down", true,
                () -> x.levels(6, Check.order(6, 10, 20, 21, 30, 31, 32, 40, 41, 42, 43, 50, 51, 52, 53, 54)));
        due("lowest is 5", 0, () -> x.join(5, 0));
        due("entry is the lowest", 1, () -> Check.compiled(x, ""));
        due("entry is 5", 5, () -> x.exit(3));
        due("policies are the highest", true, () -> x.label(0, 0, 0));
        due("0 may come out", 3, () -> Check.compiled(x, "b=a;"));
        due("as 0", 0, () -> x.exit(1));
        due("shuffled", true, () -> x.levels(5, SHUFFLED));
        due("labels are new", "1 4", () -> Check.compiled(x, "") + " " + x.exit(0));
        x.label(0, 0, 0);
        x.label(0, 1, 2);
        due("1 is the highest", 5, () -> Check.compiled(x, "c=(a+b);"));
        due("c has it", 1, () -> x.exit(2));
        x.label(1, 2, 4);
        due("levels again sets policies", true, () -> x.levels(5, SHUFFLED));
        due("and then", 3, () -> Check.compiled(x, "c=1;"));
    }

    private static void levelsThatThrow() {
        LabelGuard x = guard(4, DIAMOND);
        x.label(0, 0, 1);
        x.label(1, 1, 2);
        int[] counts = {0, 7, -1, Integer.MIN_VALUE, Integer.MAX_VALUE};
        for (int n : counts) {
            due("levels " + n, Check.ILLEGAL_ARGUMENT, () -> x.levels(n, -1L >>> 1));
        }
        due("not above itself", Check.ILLEGAL_ARGUMENT, () -> x.levels(3, CHAIN3 & ~(1L << 14)));
        due("above each other", Check.ILLEGAL_ARGUMENT, () -> x.levels(3, CHAIN3 | 1L << 13));
        due("does not pass on", Check.ILLEGAL_ARGUMENT, () -> x.levels(3, Check.order(3, 1, 12)));
        due("all bits", Check.ILLEGAL_ARGUMENT, () -> x.levels(2, -1L));
        due("no bits", Check.ILLEGAL_ARGUMENT, () -> x.levels(1, ~1L));
        due("two beside each other", Check.ILLEGAL_STATE, () -> x.levels(2, Check.order(2)));
        due("no join", Check.ILLEGAL_STATE, () -> x.levels(3, Check.order(3, 1, 2)));
        due("no meet", Check.ILLEGAL_STATE, () -> x.levels(3, Check.order(3, 2, 12)));
        due("two upper ones, neither least", Check.ILLEGAL_STATE, () -> x.levels(6,
                Check.order(6, 1, 2, 3, 4, 5, 13, 14, 15, 23, 24, 25, 35, 45)));
        due("no order comes before no join", Check.ILLEGAL_ARGUMENT, () -> x.levels(3, Check.order(3) & ~1L));
        due("nothing changed: join", "3 2 -1", () -> x.join(1, 2) + " " + x.join(0, 2) + " " + x.join(4, 0));
        due("nothing changed: entry", 3, () -> Check.compiled(x, "c=a;"));
        due("nothing changed: exit", 1, () -> x.exit(2));
        due("nothing changed: policy", Check.ILLEGAL_STATE, () -> Check.compiled(x, "b=a;"));
    }

    private static void join() {
        LabelGuard x = guard(5, SHUFFLED);
        int[][] want = {{0, 1, 1, 1, 0}, {1, 1, 1, 1, 1}, {1, 1, 2, 1, 2}, {1, 1, 1, 3, 3}, {0, 1, 2, 3, 4}};
        for (int a = 0; a < 5; a++) {
            for (int b = 0; b < 5; b++) {
                int p = a;
                int q = b;
                due("join " + a + " " + b, want[a][b], () -> x.join(p, q));
            }
        }
        int[] none = {-1, 5, 6, Integer.MIN_VALUE, Integer.MAX_VALUE};
        for (int a : none) {
            due("join " + a + " 0", -1, () -> x.join(a, 0));
            due("join 0 " + a, -1, () -> x.join(0, a));
            due("join " + a + " " + a, -1, () -> x.join(a, a));
        }
        x.levels(1, 1L);
        due("no more levels", -1, () -> x.join(1, 0));
    }

    private static void label() {
        LabelGuard x = guard(3, CHAIN3);
        int[] none = {-1, 8, Integer.MIN_VALUE, Integer.MAX_VALUE};
        for (int w : none) {
            due("no variable " + w, false, () -> x.label(0, w, 0));
            due("no side " + w, false, () -> x.label(w, 0, 0));
            due("no level " + w, false, () -> x.label(1, 0, w));
        }
        due("side 2", false, () -> x.label(2, 0, 0));
        due("level 3 of 3", false, () -> x.label(0, 0, 3));
        due("entry", true, () -> x.label(0, 7, 2));
        due("entry again", true, () -> x.label(0, 7, 1));
        due("policy", true, () -> x.label(1, 0, 0));
        due("h out", "1 1", () -> Check.compiled(x, "") + " " + x.exit(7));
        due("h to a", Check.ILLEGAL_STATE, () -> Check.compiled(x, "a=h;"));
        due("policy up", true, () -> x.label(1, 0, 1));
        due("h to a now", 3, () -> Check.compiled(x, "a=h;"));
        due("policy below entry", true, () -> x.label(1, 7, 0));
        due("even a program of none", Check.ILLEGAL_STATE, () -> Check.compiled(x, ""));
        due("not if it is overwritten", 3, () -> Check.compiled(x, "h=5;"));
    }

    private static void write() {
        LabelGuard x = new LabelGuard();
        due("none", true, () -> x.write(0L));
        due("zeros between", true, () -> x.write(0x6100003D00003100L));
        due("the rest", true, () -> x.write(0x3B00000000000000L));
        due("is a=1;", 3, x::compile);
        due("code 31", false, () -> x.write(0x613D31000000001FL));
        due("code 127", false, () -> x.write(0x7F00000000000000L));
        due("code 255", false, () -> x.write(0x613D313B000000FFL));
        due("code 128", false, () -> x.write(0x8000000000000000L));
        due("nothing was written", 1, x::compile);
        due("codes 32 and 126", true, () -> x.write(0x207EL));
        due("no program", Check.ILLEGAL_ARGUMENT, x::compile);
        due("at 0", 0, x::position);
        String long70 = "a=1;".repeat(17) + "a=";
        due("70", true, () -> Check.writeAll(x, long70));
        due("3 more", false, () -> x.write(Check.packed("12;")));
        due("2 more", true, () -> x.write(Check.packed("1;")));
        due("1 more", false, () -> x.write(Check.packed(" ")));
        due("none more", true, () -> x.write(0L));
        due("72 characters", 37, x::compile);
        due("the text is empty again", true, () -> Check.writeAll(x, long70));
        due("8 more than 2", false, () -> x.write(Check.packed("1;a=1;b=")));
        due("70 characters", Check.ILLEGAL_ARGUMENT, x::compile);
        due("at 70", 70, x::position);
    }

    private static void error(String text, int position) {
        LabelGuard x = new LabelGuard();
        due("compile " + text, position < 0 ? "" : Check.ILLEGAL_ARGUMENT,
                () -> Check.compiled(x, text).startsWith("throws") ? Check.compiled(x, text) : "");
        due("position of " + text, position, x::position);
    }

    private static void errors() {
        error("", -1);
        error(" ", 0);
        error("a", 1);
        error("a ", 1);
        error("a=", 2);
        error("a= 1;", 2);
        error("a=1", 3);
        error("a=12", 4);
        error("a=123", 5);
        error("a=1234;", 5);
        error("a=000;", -1);
        error("a=b;b=h;", -1);
        error("a=bc;", 3);
        error("a=i;", 2);
        error("i=1;", 0);
        error("A=1;", 0);
        error("`=1;", 0);
        error("h=1;;", 4);
        error("a=1;1", 4);
        error("a=1;}", 4);
        error("a=1;{", 4);
        error("a=(1);", 4);
        error("a=(1+2", 6);
        error("a=(1+2;", 6);
        error("a=(1+2));", 7);
        error("a=(1+2+3);", 6);
        error("a=(1/2);", 4);
        error("a=(1>2);", 4);
        error("a=(1+);", 5);
        error("a=();", 3);
        error("a=-1;", 2);
        error("a=1+2;", 3);
        error("a==1;", 2);
        error("?", 1);
        error("*", 1);
        error("?a", 2);
        error("?a{", 3);
        error("?a{}", 4);
        error("?a{}{", 5);
        error("?a{}{}", -1);
        error("?a{}b=1;", 4);
        error("?a{}*b{}", 4);
        error("?a{;}{}", 3);
        error("?a{b}{}", 4);
        error("?a(", 2);
        error("?{}{}", 1);
        error("?*", 1);
        error("*a{}", -1);
        error("*a{}{}", 4);
        error("*a;", 2);
        error("*a{b=1}", 6);
        error("*a{b=1;", 7);
        error("*(a<1){a=(a+1);}b=a;", -1);
        error("*(a<1{a=(a+1);}b=a;", 5);
        error("*a)", 2);
        error("a=1;".repeat(18), -1);
        error("a=1;".repeat(17) + "a=1", 71);
        error("a=1;".repeat(17) + "*a{ ", 71);
        error("a=1;".repeat(17) + "*a{*", 72);
    }

    private static void depths() {
        error("a=" + "(".repeat(6) + "1" + "+1)".repeat(6) + ";", -1);
        error("a=" + "(".repeat(7) + "1" + "+1)".repeat(7) + ";", 8);
        error("a=" + "(1+".repeat(6) + "1" + ")".repeat(6) + ";", -1);
        error("a=" + "(1+".repeat(6) + "(1+1)" + ")".repeat(6) + ";", 20);
        error("*a{".repeat(6) + "}".repeat(6), -1);
        error("*a{".repeat(7) + "}".repeat(7), 20);
        error("*a{".repeat(6) + "b=1;" + "}".repeat(6), -1);
        error("*a{".repeat(6) + "b=(1+1);" + "}".repeat(6), 20);
        error("*a{".repeat(5) + "b=(1+1);" + "}".repeat(5), -1);
        error("*a{".repeat(5) + "b=((1+1)+1);" + "}".repeat(5), 18);
        error("*a{".repeat(6) + "*(a+1){}" + "}".repeat(6), 19);
        error("*a{".repeat(6) + "*", 19);
        error("*a{".repeat(6) + "*a", 20);
        error("*a{".repeat(6) + "*123", 22);
        error("*a{".repeat(6) + "*1234", 22);
        error("*a{".repeat(6) + "?a;", 20);
        error("*a{".repeat(6) + "?a{}{}", 20);
        error("*a{".repeat(5) + "?(a+1){}{}" + "}".repeat(5), -1);
        error("*a{".repeat(5) + "?((a+1)+1){}{}" + "}".repeat(5), 17);
        error("*a{".repeat(5) + "*a{}*(a+1){}b=(c*d);" + "}".repeat(5), -1);
        error("?a{}{".repeat(6) + "}".repeat(6), -1);
        error("?a{}{".repeat(6) + "?a{", 32);
    }

    private static void compileAndItsTrace() {
        LabelGuard x = guard(2, TWO);
        x.label(0, 0, 1);
        x.label(1, 1, 0);
        due("a program", 5, () -> Check.compiled(x, "c=a;b=7;"));
        String before = Check.listing(x);
        due("no program", Check.ILLEGAL_ARGUMENT, () -> Check.compiled(x, "d=a;b"));
        due("its position", 5, x::position);
        due("position again", 5, x::position);
        due("the program stays", "1 0", () -> x.exit(2) + " " + x.exit(3));
        due("its code stays", before, () -> Check.listing(x));
        due("accepted still", 5, () -> x.run(9));
        x.write(Check.packed("d=1;"));
        due("position after write", 5, x::position);
        due("what was no program is gone", 3, x::compile);
        due("no position now", -1, x::position);
        due("an error", Check.ILLEGAL_ARGUMENT, () -> Check.compiled(x, "z"));
        due("position 0", 0, x::position);
        due("verify does not matter", 3, x::verify);
        due("position 0 still", 0, x::position);
        String code = Check.listing(x);
        due("too secret", Check.ILLEGAL_STATE, () -> Check.compiled(x, "b=a;d=a;"));
        due("no position", -1, x::position);
        due("it is the program", "1 1", () -> x.exit(1) + " " + x.exit(3));
        due("the code stays", code, () -> Check.listing(x));
        due("found stays", 1, () -> x.found(0, 0));
        due("the code runs", 3, () -> x.run(9));
        x.set(0, 6);
        due("the program is followed", "0 6 6", () -> x.follow(0) + " " + x.get(1) + " " + x.get(3));
        due("text is empty", 1, x::compile);
        due("code was changed: nothing found", -1, () -> x.found(0, 0));
        x.label(1, 1, 1);
        x.label(0, 0, 0);
        due("exit as it was worked out", 1, () -> x.exit(0));
        x.levels(1, 1L);
        due("even without the level", 1, () -> x.exit(0));
        x.levels(4, DIAMOND);
        x.label(0, 0, 1);
        x.label(1, 1, 2);
        due("beside the policy is above it", Check.ILLEGAL_STATE, () -> Check.compiled(x, "b=a;"));
    }

    private static void exits(int n, long below, String entries, String text, String want) {
        LabelGuard x = guard(n, below);
        for (int v = 0; v < entries.length(); v++) {
            x.label(0, v, entries.charAt(v) - '0');
        }
        String answer = Check.compiled(x, text);
        StringBuilder got = new StringBuilder(answer.startsWith("throws") ? answer : "");
        for (int v = 0; v < want.length(); v++) {
            got.append(x.exit(v));
        }
        CHECK.same("exit labels of " + text, want, got);
    }

    private static void programLabels() {
        exits(4, DIAMOND, "1200", "c=(a+b);d=5;", "1230");
        exits(4, DIAMOND, "1230", "c=1;d=c;", "1200");
        exits(4, DIAMOND, "1200", "?a{c=b;}{d=1;}", "1231");
        exits(4, DIAMOND, "1203", "?a{d=1;}{d=1;}", "1201");
        exits(4, DIAMOND, "1203", "?a{d=1;}{}", "1203");
        exits(4, DIAMOND, "1200", "?0{c=a;}{c=b;}", "1230");
        exits(4, DIAMOND, "1200", "?a{a=1;}{a=2;}c=a;", "1210");
        exits(4, DIAMOND, "1200", "?a{c=1;}{}d=1;", "1210");
        exits(4, DIAMOND, "1200", "?a{?b{c=1;}{d=1;}}{}", "1233");
        exits(4, DIAMOND, "1200", "*a{c=1;}d=1;", "1210");
        exits(4, DIAMOND, "1200", "*a{a=b;}c=1;", "3200");
        exits(4, DIAMOND, "1200", "*c{d=1;c=a;}", "1211");
        exits(4, DIAMOND, "12000", "*1{e=d;d=c;c=a;}", "12111");
        exits(4, DIAMOND, "12000", "*e{e=d;d=c;c=a;}", "12111");
        exits(4, DIAMOND, "12000", "*e{c=0;e=b;}", "12202");
        exits(4, DIAMOND, "1200", "*a{*b{c=1;}d=1;}", "1231");
        exits(3, CHAIN3, "12000000", "*h{h=g;g=f;f=e;e=d;d=c;c=a;}h=(h*0);", "12111111");
        exits(5, SHUFFLED, "02344444", "d=(a+b);e=(c+7);f=g;", "02313444");
        exits(1, 1L, "0", "a=b;", "00000000");
        exits(4, DIAMOND, "1200", "", "1200");
    }

    private static void code() {
        LabelGuard x = new LabelGuard();
        Check.putAll(x, 3, -7, -4, Integer.MAX_VALUE);
        due("kinds and arguments", "3:-7 -4:2147483647", () -> Check.listing(x));
        due("how many, what 0", 2, () -> x.code(-1, 0));
        due("how many, what 1", 2, () -> x.code(-1, 1));
        int[] none = {2, -2, 99, 100, Integer.MIN_VALUE, Integer.MAX_VALUE};
        for (int w : none) {
            due("no instruction " + w, "-1 -1", () -> x.code(w, 0) + " " + x.code(w, 1));
            due("no what " + w, -1, () -> x.code(0, w));
        }
        due("no what -1", -1, () -> x.code(0, -1));
    }

    private static void listed(String text, String want) {
        LabelGuard x = new LabelGuard();
        int many = want.split(" ").length;
        due("compile " + text, many, () -> Check.compiled(x, text));
        due("how many of " + text, many, () -> x.code(-1, 0));
        due("the code of " + text, want, () -> Check.listing(x));
        due("verify " + text, many, x::verify);
    }

    private static void codeOfPrograms() {
        listed("", "9:0");
        listed("a=7;", "0:7 2:0 9:0");
        listed("h=007;b=h;", "0:7 2:7 1:7 2:1 9:0");
        listed("a=(b+c);", "1:1 1:2 3:0 2:0 9:0");
        listed("a=(b-(c*(d<999)));", "1:1 1:2 1:3 0:999 6:0 5:0 4:0 2:0 9:0");
        listed("a=((b-c)-d);", "1:1 1:2 4:0 1:3 4:0 2:0 9:0");
        listed("?a{}{}", "1:0 7:3 8:3 9:0");
        listed("?a{b=1;}{c=2;}d=3;", "1:0 7:5 0:1 2:1 8:7 0:2 2:2 0:3 2:3 9:0");
        listed("*a{}", "1:0 7:3 8:0 9:0");
        listed("b=1;*(a<b){a=1;}c=2;", "0:1 2:1 1:0 1:1 6:0 7:9 0:1 2:0 8:2 0:2 2:2 9:0");
        listed("*a{?b{*c{}}{d=1;}}", "1:0 7:11 1:1 7:8 1:2 7:7 8:4 8:10 0:1 2:3 8:0 9:0");
        listed("*a{}".repeat(18), longestListing());
    }

    private static String longestListing() {
        StringBuilder want = new StringBuilder();
        for (int k = 0; k < 54; k += 3) {
            want.append("1:0 7:").append(k + 3).append(" 8:").append(k).append(' ');
        }
        return want.append("9:0").toString();
    }

    private static void emptyAndPut() {
        LabelGuard x = new LabelGuard();
        for (int k = 0; k < 100; k++) {
            int argument = k;
            due("put " + k, true, () -> x.put(9, argument));
        }
        due("100 are verified", 1, x::verify);
        due("put one more", false, () -> x.put(0, 0));
        due("the code is the same", "100 9 99", () -> x.code(-1, 0) + " " + x.code(99, 0) + " " + x.code(99, 1));
        due("accepted still", 1, () -> x.run(1));
        due("found still", 0, () -> x.found(0, 0));
        x.empty();
        due("none", "0 -1", () -> x.code(-1, 0) + " " + x.code(0, 0));
        due("nothing accepted", Check.ILLEGAL_STATE, () -> x.run(1));
        due("nothing found", -1, () -> x.found(0, 0));
        due("empty has no shape", Check.ILLEGAL_ARGUMENT, x::verify);
        due("room again", true, () -> x.put(9, 0));
        due("compile", 3, () -> Check.compiled(x, "a=4;"));
        x.empty();
        due("the program stays", "0 0 4", () -> x.exit(0) + " " + x.follow(0) + " " + x.get(0));
        due("its code does not", Check.ILLEGAL_STATE, () -> x.run(9));
        due("compile again", 3, () -> Check.compiled(x, "a=5;"));
        due("put behind it", true, () -> x.put(9, 0));
        due("changed, so not accepted", Check.ILLEGAL_STATE, () -> x.run(9));
        due("verified then", "3 3", () -> x.verify() + " " + x.run(9));
    }

    private static void shaped(String what, Object want, int... kindsAndArguments) {
        LabelGuard x = new LabelGuard();
        Check.putAll(x, kindsAndArguments);
        due("verify: " + what, want, x::verify);
        boolean fits = want instanceof Integer;
        due("found: " + what, fits ? 0 : -1, () -> x.found(0, 8));
        due("run: " + what, fits ? "-1" : Check.ILLEGAL_STATE, () -> x.run(0));
    }

    private static void shape() {
        String no = Check.ILLEGAL_ARGUMENT;
        shaped("END", 1, 9, 0);
        shaped("END, any argument", 1, 9, Integer.MIN_VALUE);
        shaped("kind -1", no, -1, 0, 9, 0);
        shaped("kind 10", no, 10, 0, 9, 0);
        shaped("kind 10, not reached", no, 9, 0, 10, 0);
        shaped("kind -1, not reached", no, 9, 0, -1, 0);
        shaped("LOAD 8", no, 1, 8, 2, 0, 9, 0);
        shaped("LOAD -1", no, 1, -1, 2, 0, 9, 0);
        shaped("LOAD 8, not reached", no, 9, 0, 1, 8);
        shaped("STORE 8", no, 0, 1, 2, 8, 9, 0);
        shaped("STORE -1, not reached", no, 9, 0, 2, -1);
        shaped("JUMP 2 of 2", no, 9, 0, 8, 2);
        shaped("JUMP -1", no, 8, -1, 9, 0);
        shaped("ZERO 3 of 3", no, 0, 1, 7, 3, 9, 0);
        shaped("ZERO -1, not reached", no, 9, 0, 7, -1);
        shaped("ZERO to itself is a number of one", 1, 9, 0, 7, 1);
        shaped("not reached, without END", 1, 9, 0, 0, 1);
        shaped("not reached, takes off too much", 1, 9, 0, 3, 0);
        shaped("PUSH any", 3, 0, Integer.MIN_VALUE, 2, 7, 9, 0);
        shaped("ends without END", no, 0, 1, 2, 0);
        shaped("ends with ZERO", no, 8, 2, 9, 0, 0, 1, 7, 1);
        shaped("ends with JUMP", 4, 8, 2, 9, 0, 8, 3, 8, 1);
        shaped("JUMP to itself", no, 8, 0);
        shaped("one way to no END", no, 0, 1, 7, 3, 9, 0, 8, 3);
        shaped("two that go round", no, 8, 1, 8, 0, 9, 0);
        shaped("a loop with a way out", 4, 1, 0, 7, 3, 8, 0, 9, 0);
        shaped("a long way back to END", 6, 8, 4, 9, 0, 8, 1, 8, 2, 8, 5, 8, 3);
    }

    private static void stackHeights() {
        String no = Check.ILLEGAL_ARGUMENT;
        shaped("STORE from none", no, 2, 0, 9, 0);
        shaped("ZERO from none", no, 7, 1, 9, 0);
        shaped("END with one", no, 0, 1, 9, 0);
        for (int kind = 3; kind <= 6; kind++) {
            shaped(kind + " from none", no, kind, 0, 9, 0);
            shaped(kind + " from one", no, 0, 1, kind, 0, 2, 0, 9, 0);
            shaped(kind + " from two", 5, 0, 1, 1, 2, kind, 99, 2, 0, 9, 0);
        }
        for (int high = 7; high <= 9; high++) {
            int[] code = new int[4 * high + 2];
            for (int k = 0; k < high; k++) {
                code[2 * k] = k % 2;
                code[2 * (high + k)] = 2;
            }
            code[4 * high] = 9;
            shaped(high + " on the stack", high <= 8 ? 2 * high + 1 : no, code);
        }
        shaped("two heights by ZERO", no, 0, 1, 7, 3, 0, 1, 9, 0);
        shaped("two heights by a loop", no, 0, 1, 1, 0, 7, 0, 2, 0, 9, 0);
        shaped("one height by a loop, above others", 6, 0, 1, 1, 0, 7, 4, 8, 1, 2, 0, 9, 0);
        shaped("height 0 in a loop", 4, 1, 0, 7, 0, 8, 3, 9, 0);
    }

    private static String contexts(LabelGuard x) {
        StringBuilder out = new StringBuilder();
        for (int k = 0; k < x.code(-1, 0); k++) {
            int context = x.found(k, 8);
            out.append(context < 0 ? "." : String.valueOf(context));
        }
        return out.toString();
    }

    private static void regionsOf(String what, String want, int... kindsAndArguments) {
        LabelGuard x = guard(4, DIAMOND);
        x.label(0, 0, 1);
        x.label(0, 1, 2);
        Check.putAll(x, kindsAndArguments);
        Check.answer(x::verify);
        due("contexts: " + what, want, () -> contexts(x));
    }

    private static void regions() {
        regionsOf("ZERO to the next", "000", 1, 0, 7, 2, 9, 0);
        regionsOf("one side", "00110", 1, 0, 7, 4, 0, 1, 2, 2, 9, 0);
        regionsOf("two sides", "0011100", 1, 0, 7, 4, 0, 1, 8, 5, 0, 1, 2, 2, 9, 0);
        regionsOf("two ENDs", "0011", 1, 0, 7, 3, 9, 0, 9, 0);
        regionsOf("two ENDs, together before", "00100", 1, 0, 7, 3, 8, 3, 8, 4, 9, 0);
        regionsOf("a loop holds its ZERO and what comes before", "1110", 1, 0, 7, 3, 8, 0, 9, 0);
        regionsOf("a loop from below", "110", 1, 0, 7, 0, 9, 0);
        regionsOf("a loop with something before", "001110", 0, 1, 2, 2, 1, 0, 7, 5, 8, 2, 9, 0);
        regionsOf("not reached", "001.1", 1, 0, 7, 4, 9, 0, 9, 0, 9, 0);
        regionsOf("b inside a", "0011333110", 1, 0, 7, 9, 1, 1, 7, 7, 0, 1, 2, 2, 8, 7, 0, 5, 2, 3, 9, 0);
        regionsOf("a way out of a loop", "3333330", 1, 0, 7, 6, 1, 1, 7, 5, 8, 6, 8, 0, 9, 0);
        regionsOf("many ways back", "01111111111000111", 8, 11, 7, 8, 0, 0, 8, 15, 9, 0, 8, 4, 8, 5, 8, 6, 8, 7,
                8, 1, 8, 9, 1, 2, 1, 0, 7, 15, 8, 10, 2, 3, 9, 0);
        LabelGuard x = guard(2, TWO);
        x.label(0, 0, 1);
        Check.putAll(x, 1, 0, 7, 3, 8, 0, 9, 0);
        due("a loop", "4 1110", () -> x.verify() + " " + contexts(x));
        x.empty();
        Check.putAll(x, 1, 0, 7, 2, 8, 3, 9, 0);
        due("nothing stays of its region", "4 0000", () -> x.verify() + " " + contexts(x));
        regionsOf("ZERO whose ways meet in a loop", "1131110", 1, 1, 7, 3, 8, 3, 1, 0, 7, 6, 8, 0, 9, 0);
    }

    private static String stackLabels(LabelGuard x, int k) {
        StringBuilder out = new StringBuilder();
        for (int what = 9; what < 20; what++) {
            int label = x.found(k, what);
            out.append(label < 0 ? "." : String.valueOf(label));
        }
        return out.toString();
    }

    private static String variableLabels(LabelGuard x, int k) {
        StringBuilder out = new StringBuilder();
        for (int what = 0; what < 8; what++) {
            out.append(x.found(k, what));
        }
        return out.toString();
    }

    private static void codeLabels() {
        LabelGuard x = guard(4, DIAMOND);
        x.label(0, 0, 1);
        x.label(0, 1, 2);
        Check.putAll(x, 1, 0, 1, 1, 0, 5, 1, 0, 3, 0, 6, 0, 5, 0, 2, 3, 9, 0);
        due("straight", 9, x::verify);
        String[] stacks = {"...........", "1..........", "12.........", "120........", "1201.......",
            "121........", "13.........", "3..........", "..........."};
        for (int k = 0; k < stacks.length; k++) {
            int at = k;
            due("stack at " + k, stacks[k], () -> stackLabels(x, at));
            due("variables at " + k, k == 8 ? "12030000" : "12000000", () -> variableLabels(x, at));
        }
        LabelGuard y = guard(4, DIAMOND);
        y.label(0, 0, 1);
        y.label(0, 1, 2);
        y.label(0, 2, 3);
        Check.putAll(y, 1, 0, 7, 6, 1, 1, 0, 4, 2, 3, 8, 8, 0, 0, 8, 8, 2, 2, 9, 0);
        due("two sides leave", 10, y::verify);
        due("PUSH has the context", "31.........", () -> stackLabels(y, 4));
        due("the first side", "3..........", () -> stackLabels(y, 5));
        due("the first side's variables", "12310000", () -> variableLabels(y, 5));
        due("the second side", "1..........", () -> stackLabels(y, 7));
        due("the second side's variables", "12300000", () -> variableLabels(y, 7));
        due("joined on the stack", "3..........", () -> stackLabels(y, 8));
        due("joined variables", "12310000", () -> variableLabels(y, 8));
        due("STORE in no region", "12310000", () -> variableLabels(y, 9));
        LabelGuard z = guard(4, DIAMOND);
        z.label(0, 0, 1);
        z.label(0, 2, 3);
        Check.putAll(z, 1, 0, 7, 4, 0, 9, 2, 2, 0, 8, 2, 2, 9, 0);
        due("one side stores", 7, z::verify);
        due("STORE takes the secret away", "10000000", () -> variableLabels(z, 6));
        due("STORE in a region", "10300000", () -> variableLabels(z, 4));
    }

    private static void safety() {
        LabelGuard x = guard(4, DIAMOND);
        x.label(0, 0, 1);
        x.label(1, 1, 2);
        Check.putAll(x, 1, 0, 2, 1, 9, 0);
        due("1 is not allowed by 2", Check.ILLEGAL_STATE, x::verify);
        due("found all the same", 1, () -> x.found(2, 1));
        due("not accepted", Check.ILLEGAL_STATE, () -> x.run(9));
        x.label(1, 1, 3);
        due("found as it was", 1, () -> x.found(2, 1));
        due("allowed by 3", 3, x::verify);
        due("runs", 3, () -> x.run(9));
        x.label(1, 1, 0);
        due("still accepted", 3, () -> x.run(9));
        x.levels(2, TWO);
        due("still accepted with other levels", 3, () -> x.run(9));
        due("found as it was with other levels", "1 0", () -> x.found(0, 0) + " " + x.found(0, 1));
        x.label(0, 0, 1);
        x.label(1, 1, 0);
        due("not again", Check.ILLEGAL_STATE, x::verify);
        due("accepted no more", Check.ILLEGAL_STATE, () -> x.run(9));
        x.label(1, 1, 1);
        due("but then", "3 3", () -> x.verify() + " " + x.run(9));
        LabelGuard y = guard(2, TWO);
        y.label(0, 0, 1);
        y.label(1, 1, 0);
        Check.putAll(y, 1, 2, 7, 3, 9, 0, 1, 0, 2, 1, 9, 0);
        due("one END of two", Check.ILLEGAL_STATE, y::verify);
        y.empty();
        Check.putAll(y, 8, 2, 9, 0, 9, 0, 1, 0, 2, 1, 9, 0);
        due("what is not reached does not matter", 2, y::verify);
        y.empty();
        Check.putAll(y, 1, 0, 2, 1, 0, 0, 2, 1, 9, 0);
        due("secret in between only", 5, y::verify);
        y.label(1, 0, 0);
        due("entry above policy", Check.ILLEGAL_STATE, y::verify);
        due("compiled", 3, () -> Check.compiled(y, "a=1;"));
        y.label(1, 0, 1);
        y.label(0, 1, 1);
        due("compiled but not safe now", Check.ILLEGAL_STATE, y::verify);
        due("so not accepted", Check.ILLEGAL_STATE, () -> y.run(9));
    }

    private static void found() {
        LabelGuard x = guard(2, TWO);
        x.label(0, 2, 1);
        Check.putAll(x, 1, 2, 2, 3, 9, 0, 9, 0);
        due("before verify", -1, () -> x.found(0, 0));
        due("verify", 3, x::verify);
        due("entry labels", "00100000", () -> variableLabels(x, 0));
        due("at END", "00110000", () -> variableLabels(x, 2));
        due("context", 0, () -> x.found(1, 8));
        due("stack", "1..........", () -> stackLabels(x, 1));
        int[] none = {-1, 3, 4, 100, Integer.MIN_VALUE, Integer.MAX_VALUE};
        for (int w : none) {
            due("no instruction " + w, "-1 -1", () -> x.found(w, 0) + " " + x.found(w, 8));
        }
        int[] noWhat = {-1, 10, 17, Integer.MIN_VALUE, Integer.MAX_VALUE};
        for (int w : noWhat) {
            due("no what " + w, -1, () -> x.found(1, w));
        }
        due("what 9 of an empty stack", -1, () -> x.found(0, 9));
        due("a wrong compile", Check.ILLEGAL_ARGUMENT, () -> Check.compiled(x, "x"));
        due("changes nothing", 1, () -> x.found(1, 9));
        x.put(9, 0);
        due("put does", -1, () -> x.found(1, 9));
        due("verify again", 3, x::verify);
        due("found again", 1, () -> x.found(1, 9));
        due("compile", 3, () -> Check.compiled(x, "d=c;"));
        due("found no more", -1, () -> x.found(1, 9));
        due("verified", 3, x::verify);
        x.put(10, 0);
        due("without shape", Check.ILLEGAL_ARGUMENT, x::verify);
        due("nothing found", -1, () -> x.found(1, 9));
        eightOnTheStack();
    }

    private static void eightOnTheStack() {
        LabelGuard x = guard(2, TWO);
        x.label(0, 7, 1);
        for (int k = 0; k < 8; k++) {
            x.put(1, k);
        }
        for (int k = 0; k < 8; k++) {
            x.put(2, k);
        }
        x.put(9, 0);
        due("eight", 17, x::verify);
        due("eight labels", "00000001...", () -> stackLabels(x, 8));
        due("seven labels", "0000000....", () -> stackLabels(x, 9));
        due("at the end", "10000000", () -> variableLabels(x, 16));
        for (int k = 0; k < 8; k++) {
            x.set(k, 10 + k);
        }
        due("eight run", 17, () -> x.run(17));
        for (int k = 0; k < 8; k++) {
            int v = k;
            due("turned round " + k, 17 - k, () -> x.get(v));
        }
    }

    private static void setAndGet() {
        LabelGuard x = new LabelGuard();
        int[] some = {1, 0, -1, Integer.MIN_VALUE, Integer.MAX_VALUE, 77, -9, 1 << 20};
        for (int v = 0; v < 8; v++) {
            int variable = v;
            due("set " + v, true, () -> x.set(variable, some[variable]));
        }
        int[] none = {-1, 8, Integer.MIN_VALUE, Integer.MAX_VALUE};
        for (int v : none) {
            due("set no " + v, false, () -> x.set(v, 5));
            due("get no " + v, 0, () -> x.get(v));
        }
        due("levels leave values", true, () -> x.levels(2, TWO));
        due("compile leaves values", 3, () -> Check.compiled(x, "a=5;"));
        x.empty();
        int[] got = new int[8];
        for (int v = 0; v < 8; v++) {
            got[v] = x.get(v);
        }
        CHECK.same("get", Arrays.toString(some), Arrays.toString(got));
    }

    private static void run() {
        LabelGuard x = new LabelGuard();
        due("program", 12, () -> Check.compiled(x, "*(0<a){a=(a-1);d=9;}"));
        x.set(0, 3);
        due("too few", -1, () -> x.run(37));
        due("as they were", "3 0", () -> x.get(0) + " " + x.get(3));
        due("just enough", 38, () -> x.run(38));
        due("as they are", "0 9", () -> x.get(0) + " " + x.get(3));
        due("enough", 5, () -> x.run(2000));
        due("none", -1, () -> x.run(0));
        int[] wrong = {-1, 2001, Integer.MIN_VALUE, Integer.MAX_VALUE};
        for (int n : wrong) {
            due("run " + n, Check.ILLEGAL_ARGUMENT, () -> x.run(n));
            due("run " + n + " without code", Check.ILLEGAL_ARGUMENT, () -> new LabelGuard().run(n));
        }
        due("a loop without end", 4, () -> Check.compiled(x, "*1{}"));
        due("is left", -1, () -> x.run(2000));
        due("long", 12, () -> Check.compiled(x, "*(0<a){a=(a-1);d=1;}"));
        x.set(0, 181);
        due("1996", 1996, () -> x.run(2000));
        arithmetic();
    }

    private static void arithmetic() {
        LabelGuard x = new LabelGuard();
        int[] some = {0, 1, -1, 7, Integer.MIN_VALUE, Integer.MAX_VALUE, 65536};
        due("operations", 17, () -> Check.compiled(x, "c=(a+b);d=(a-b);e=(a*b);f=(a<b);"));
        for (int a : some) {
            for (int b : some) {
                x.set(0, a);
                x.set(1, b);
                String want = (a + b) + " " + (a - b) + " " + (a * b) + " " + (a < b ? 1 : 0);
                due("run", 17, () -> x.run(17));
                due(a + " and " + b, want, () -> x.get(2) + " " + x.get(3) + " " + x.get(4) + " " + x.get(5));
                x.set(2, 5);
                x.set(5, 5);
                due("follow", 0, () -> x.follow(0));
                due("meant", want, () -> x.get(2) + " " + x.get(3) + " " + x.get(4) + " " + x.get(5));
            }
        }
    }

    private static void runWhatIsAccepted() {
        LabelGuard x = new LabelGuard();
        Check.putAll(x, 0, -12, 2, 4, 9, 0);
        due("not verified", Check.ILLEGAL_STATE, () -> x.run(3));
        due("verified", 3, x::verify);
        due("run", "3 -12", () -> x.run(3) + " " + x.get(4));
        x.put(8, 77);
        due("changed", Check.ILLEGAL_STATE, () -> x.run(3));
        due("no shape", Check.ILLEGAL_ARGUMENT, x::verify);
        due("not accepted", Check.ILLEGAL_STATE, () -> x.run(3));
        due("compiled", 1, x::compile);
        due("accepted", 1, () -> x.run(1));
        x.put(5, 5);
        due("put changes it", Check.ILLEGAL_STATE, () -> x.run(1));
        x.empty();
        Check.putAll(x, 1, 0, 7, 4, 0, 1, 8, 5, 0, 2, 2, 1, 9, 0);
        due("stack through JUMPs", 7, x::verify);
        x.set(0, 5);
        due("not 0", "6 1", () -> x.run(9) + " " + x.get(1));
        x.set(0, 0);
        due("0", "5 2", () -> x.run(9) + " " + x.get(1));
    }

    private static void follow() {
        LabelGuard x = guard(2, TWO);
        x.label(0, 0, 1);
        x.label(1, 1, 0);
        due("too secret", Check.ILLEGAL_STATE, () -> Check.compiled(x, "?a{b=1;*a{a=(a-1);c=(c+a);}}{b=2;}"));
        x.set(0, 4);
        due("too few", -1, () -> x.follow(5));
        due("as they were", "4 0 0", () -> x.get(0) + " " + x.get(1) + " " + x.get(2));
        due("none", -1, () -> x.follow(0));
        due("just enough", 6, () -> x.follow(6));
        due("as they are", "0 1 6", () -> x.get(0) + " " + x.get(1) + " " + x.get(2));
        due("the other one", "1 2", () -> x.follow(500) + " " + x.get(1));
        int[] wrong = {-1, 501, Integer.MIN_VALUE, Integer.MAX_VALUE};
        for (int n : wrong) {
            due("follow " + n, -1, () -> x.follow(n));
        }
        due("no program", Check.ILLEGAL_ARGUMENT, () -> Check.compiled(x, "?"));
        due("the one before", 1, () -> x.follow(1));
        due("without end", 4, () -> Check.compiled(x, "*1{}"));
        due("is left", -1, () -> x.follow(500));
        due("499 times", 10, () -> Check.compiled(x, "d=499;*d{d=(d-1);}"));
        due("500 looks", 500, () -> x.follow(500));
        due("499 looks", -1, () -> x.follow(499));
        x.empty();
        due("without its code", 500, () -> x.follow(500));
        due("none looked at", "5 0", () -> Check.compiled(x, "e=1;f=e;") + " " + x.follow(0));
        x.set(7, 1);
        due("loops six deep", 23, () -> Check.compiled(x, "*h{".repeat(6) + "g=h;h=0;" + "}".repeat(6)));
        due("are followed", "12 1", () -> x.follow(12) + " " + x.get(6));
        due("brackets six deep", 15, () -> Check.compiled(x, "g=" + "(g*".repeat(6) + "2" + ")".repeat(6) + ";"));
        x.set(6, 3);
        due("are worked out", "0 1458", () -> x.follow(0) + " " + x.get(6));
    }
}
