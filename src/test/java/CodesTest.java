import java.util.Arrays;
import java.util.Random;

/** Random code, much of which has its shape and is no program's, against the model. */
public final class CodesTest {
    private static final Check CHECK = new Check();
    private static final Random RANDOM = new Random(100);
    private static final Codes CODES = new Codes(RANDOM);
    /** Used for some codes one after the other, as nothing of one may stay for the next. */
    private static LabelGuard guard = new LabelGuard();

    public static void main(String[] args) {
        int fitting = 0;
        int safe = 0;
        for (int i = 0; i < 30000; i++) {
            int[][] code = RANDOM.nextInt(4) == 0 ? CODES.wildCode() : CODES.tameCode();
            if (RANDOM.nextInt(3) == 0 && code.length > 0 && code.length < 50) {
                code = CODES.scattered(code);
            }
            guard = i % 4 == 0 ? new LabelGuard() : guard;
            guard.empty();
            if (RANDOM.nextInt(8) == 0 && code.length > 0) {
                code[RANDOM.nextInt(code.length)][RANDOM.nextInt(2)] = RANDOM.nextInt(code.length + 4) - 2;
            }
            int outcome = compare(code);
            fitting += outcome > 0 ? 1 : 0;
            safe += outcome > 1 ? 1 : 0;
        }
        System.out.println(fitting + " had their shape, " + safe + " were safe");
        CHECK.same("many had their shape", true, fitting > 5000);
        CHECK.same("many were safe", true, safe > 2000 && safe < fitting - 1000);
        CHECK.end();
    }

    /** 0 without shape, 1 with it, 2 if it is safe too. */
    private static int compare(int[][] code) {
        Model.Levels levels = Model.Levels.randomLattice(RANDOM);
        LabelGuard x = guard;
        x.levels(levels.n, levels.below);
        int[] entry = new int[8];
        int[] policy = new int[8];
        for (int v = 0; v < 8; v++) {
            entry[v] = RANDOM.nextInt(levels.n);
            policy[v] = RANDOM.nextInt(9) > 0 ? levels.top() : RANDOM.nextInt(levels.n);
            x.label(0, v, entry[v]);
            x.label(1, v, policy[v]);
        }
        for (int[] one : code) {
            x.put(one[0], one[1]);
        }
        String what = Arrays.deepToString(code);
        Model.Instructions model = new Model.Instructions(code);
        String got = Check.answer(x::verify);
        if (!model.fits) {
            CHECK.same("verify " + what, Check.ILLEGAL_ARGUMENT, got);
            CHECK.same("found " + what, -1, x.found(0, 8));
            CHECK.same("run " + what, Check.ILLEGAL_STATE, Check.answer(() -> x.run(9)));
            return 0;
        }
        model.findLabels(levels, entry);
        boolean safe = model.isSafe(levels, policy);
        CHECK.same("verify " + what, safe ? model.reached() : Check.ILLEGAL_STATE, got);
        for (int k = -1; k <= code.length; k++) {
            for (int w = -1; w < 18; w++) {
                CHECK.same("found " + k + " " + w + " " + what, model.found(k, w), x.found(k, w));
            }
        }
        compareRun(model, x, safe, what);
        return safe ? 2 : 1;
    }

    private static void compareRun(Model.Instructions model, LabelGuard x, boolean safe, String what) {
        int[] values = new int[8];
        for (int v = 0; v < 8; v++) {
            values[v] = RANDOM.nextInt(3) - 1;
            x.set(v, values[v]);
        }
        int most = RANDOM.nextBoolean() ? 2000 : RANDOM.nextInt(30);
        int[] ran = values.clone();
        int want = safe ? model.run(ran, most) : -1;
        CHECK.same("run " + most + " " + what, safe ? want : Check.ILLEGAL_STATE, Check.answer(() -> x.run(most)));
        for (int v = 0; v < 8; v++) {
            CHECK.same("value " + v + " " + what, want < 0 ? values[v] : ran[v], x.get(v));
        }
    }
}
