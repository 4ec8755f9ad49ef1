import com.sun.management.ThreadMXBean;
import java.lang.management.ManagementFactory;
import java.util.function.ObjIntConsumer;

/**
 * What a run makes: a run of 512 calls has room for some 600,000 objects and 7.3 million fields and elements. An
 * element takes at least a byte and an object at least 16, so a run that takes fewer bytes than this has both.
 */
public final class RoomTest {
    private static final long MOST_BYTES = 7300000;
    private static final int CALLS = 512;
    private static final Check CHECK = new Check();
    private static final ThreadMXBean THREADS = (ThreadMXBean) ManagementFactory.getThreadMXBean();
    private static int thrown = 0;

    public static void main(String[] args) {
        CHECK.same("the machine tells what was made", true, THREADS.isThreadAllocatedMemorySupported());
        staysSmall("an object that is only made", 0, (x, call) -> { });
        staysSmall("texts that make the most nodes", 0, (x, call) -> writeAndCompile(x, call, "*a{}*b{}"));
        staysSmall("texts with the last character wrong", 51, (x, call) -> writeAndCompile(x, call, "a=(1+2);"));
        staysSmall("empty texts", 0, (x, call) -> x.compile());
        staysSmall("verify", 0, (x, call) -> putAndAsk(x, call, 9));
        staysSmall("verify that throws", 412, (x, call) -> putAndAsk(x, call, 10));
        staysSmall("run and follow", 0, (x, call) -> compileAndRun(x, call));
        long wide = Check.order(6, 1, 2, 3, 4, 5, 15, 25, 35, 45);
        staysSmall("levels", 256, (x, call) -> x.levels(6, call % 2 == 0 ? -1L : wide));
        CHECK.end();
    }

    /** Nine writes fill the text, the tenth call takes it. */
    private static void writeAndCompile(LabelGuard x, int call, String eight) {
        boolean last = eight.startsWith("a") && call % 10 == 8;
        if (call % 10 < 9) {
            x.write(Check.packed(last ? "a=(1+2)a" : eight));
        } else {
            x.compile();
        }
    }

    /** A hundred instructions, many of which are ZERO, and then nothing but verify. */
    private static void putAndAsk(LabelGuard x, int call, int lastKind) {
        if (call < 98) {
            x.put(call % 2 == 0 ? 1 : 7, call % 2 == 0 ? call % 8 : call * 37 % 49 * 2);
        } else if (call < 100) {
            x.put(call == 98 ? 9 : lastKind, 0);
        } else if (lastKind == 9) {
            CHECK.same("verify", 99, x.verify());
        } else {
            x.verify();
        }
    }

    private static void compileAndRun(LabelGuard x, int call) {
        if (call == 0) {
            x.write(Check.packed("*1{a=1;}"));
        } else if (call == 1) {
            x.compile();
        } else if (call % 2 == 0) {
            x.run(2000);
        } else {
            x.follow(500);
        }
    }

    /** The first of two runs is not counted, as it makes what the machine itself needs for them. */
    private static void staysSmall(String what, int throwing, ObjIntConsumer<LabelGuard> call) {
        used(call);
        thrown = 0;
        long bytes = used(call);
        CHECK.same(what + " (" + bytes + " bytes)", true, bytes > 0 && bytes < MOST_BYTES);
        CHECK.same(what + ": how many calls throw", throwing, thrown);
    }

    private static long used(ObjIntConsumer<LabelGuard> call) {
        long before = THREADS.getThreadAllocatedBytes(Thread.currentThread().getId());
        LabelGuard x = new LabelGuard();
        for (int i = 0; i < CALLS; i++) {
            try {
                call.accept(x, i);
            } catch (IllegalArgumentException | IllegalStateException e) {
                thrown++;
            }
        }
        return THREADS.getThreadAllocatedBytes(Thread.currentThread().getId()) - before;
    }
}
