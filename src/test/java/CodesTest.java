import java.util.ArrayList;
import java.util.Arrays;
import java.util.Collections;
import java.util.List;
import java.util.Random;

/** Random code, much of which has its shape and is no program's, against the model. */
public final class CodesTest {
    private static final Check CHECK = new Check();
    private static final Random RANDOM = new Random(100);
    /** Used for some codes one after the other, as nothing of one may stay for the next. */
    private static LabelGuard guard = new LabelGuard();

    public static void main(String[] args) {
        int fitting = 0;
        int safe = 0;
        for (int i = 0; i < 30000; i++) {
            int[][] code = RANDOM.nextInt(4) == 0 ? wildCode() : tameCode();
            if (RANDOM.nextInt(3) == 0 && code.length > 0 && code.length < 50) {
                code = scattered(code);
            }
            guard = i % 4 == 0 ? new LabelGuard() : guard;
            guard.empty();
            if (RANDOM.nextInt(8) == 0 && code.length > 0) {
                code[RANDOM.nextInt(code.length)][RANDOM.nextInt(2)] = RANDOM.nextInt(code.length + 4) - 2;
            }
            int outcome = compare(code);
            fitting += outcome > 0 ? 1 : 0;
            safe += outcome > 1 ? 1 : 0;
        }
        System.out.println(fitting + " had their shape, " + safe + " were safe");
        CHECK.same("many had their shape", true, fitting > 5000);
        CHECK.same("many were safe", true, safe > 2000 && safe < fitting - 1000);
        CHECK.end();
    }

    /** The same code in any order, a JUMP behind each instruction, so that nothing can lean on the order. */
    private static int[][] scattered(int[][] code) {
        List<Integer> places = new ArrayList<>();
        for (int k = 0; k < code.length; k++) {
            places.add(1 + 2 * k);
        }
        Collections.shuffle(places, RANDOM);
        int[][] all = new int[1 + 2 * code.length][];
        all[0] = new int[] {8, places.get(0)};
        for (int k = 0; k < code.length; k++) {
            boolean aims = code[k][0] == 7 || code[k][0] == 8;
            boolean there = code[k][1] >= 0 && code[k][1] < code.length;
            all[places.get(k)] = new int[] {code[k][0], aims && there ? places.get(code[k][1]) : code[k][1]};
            all[places.get(k) + 1] = new int[] {8, k + 1 < code.length ? places.get(k + 1) : -1};
        }
        int last = places.get(code.length - 1);
        all[last + 1][1] = all[last][0] == 9 ? 0 : all.length;
        return all;
    }

    private static int[][] wildCode() {
        int[][] code = new int[RANDOM.nextInt(9)][];
        for (int k = 0; k < code.length; k++) {
            int kind = RANDOM.nextInt(20) == 0 ? RANDOM.nextInt(14) - 2 : RANDOM.nextInt(10);
            code[k] = new int[] {kind, RANDOM.nextInt(20) == 0 ? RANDOM.nextInt(12) - 2 : RANDOM.nextInt(code.length)};
        }
        if (code.length > 0 && RANDOM.nextInt(3) > 0) {
            code[code.length - 1][0] = 9;
        }
        return code;
    }

    /** Heights are chosen first; what goes on elsewhere goes where the height is the same. */
    private static int[][] tameCode() {
        int most = RANDOM.nextInt(10) == 0 ? 100 : 4 + RANDOM.nextInt(36);
        int branchy = RANDOM.nextInt(7);
        List<int[]> code = new ArrayList<>();
        List<Integer> heights = new ArrayList<>();
        int height = 0;
        while (code.size() < most - 9) {
            heights.add(height);
            int pick = RANDOM.nextInt(10 + branchy);
            int variable = RANDOM.nextInt(4);
            if (pick < 4 && height < 8 || height == 0 && pick < 8) {
                code.add(RANDOM.nextInt(4) == 0 ? new int[] {0, RANDOM.nextInt()} : new int[] {1, variable});
                height++;
            } else if (pick < 6 && height > 0) {
                code.add(new int[] {2, variable});
                height--;
            } else if (pick < 8 && height > 1) {
                code.add(new int[] {3 + RANDOM.nextInt(4), RANDOM.nextInt(3)});
                height--;
            } else if (height > 0 && pick >= 9) {
                code.add(new int[] {7, -1 - --height});
            } else if (height == 0 && RANDOM.nextInt(6) == 0) {
                code.add(new int[] {9, RANDOM.nextInt(5)});
            } else if (height > 0 || RANDOM.nextInt(3) == 0) {
                code.add(new int[] {8, -1 - height});
            } else {
                heights.remove(heights.size() - 1);
            }
        }
        for (; height > 0; height--) {
            heights.add(height);
            code.add(new int[] {2, RANDOM.nextInt(8)});
        }
        heights.add(0);
        code.add(new int[] {9, 0});
        for (int k = 0; k < code.size(); k++) {
            int[] one = code.get(k);
            if (one[0] == 7 || one[0] == 8) {
                one[1] = placeOf(heights, -1 - one[1], k);
            }
        }
        return code.toArray(new int[0][]);
    }

    private static int placeOf(List<Integer> heights, int height, int from) {
        List<Integer> places = new ArrayList<>();
        boolean onward = RANDOM.nextInt(3) > 0;
        for (int k = 0; k < heights.size(); k++) {
            if (heights.get(k) == height && (!onward || k > from)) {
                places.add(k);
            }
        }
        return places.isEmpty() ? 0 : places.get(RANDOM.nextInt(places.size()));
    }

    /** 0 without shape, 1 with it, 2 if it is safe too. */
    private static int compare(int[][] code) {
        Model.Levels levels = Model.Levels.randomLattice(RANDOM);
        LabelGuard x = guard;
        x.levels(levels.n, levels.below);
        int[] entry = new int[8];
        int[] policy = new int[8];
        for (int v = 0; v < 8; v++) {
            entry[v] = RANDOM.nextInt(levels.n);
            policy[v] = RANDOM.nextInt(9) > 0 ? levels.top() : RANDOM.nextInt(levels.n);
            x.label(0, v, entry[v]);
            x.label(1, v, policy[v]);
        }
        for (int[] one : code) {
            x.put(one[0], one[1]);
        }
        String what = Arrays.deepToString(code);
        Model.Instructions model = new Model.Instructions(code);
        String got = Check.answer(x::verify);
        if (!model.fits) {
            CHECK.same("verify " + what, Check.ILLEGAL_ARGUMENT, got);
            CHECK.same("found " + what, -1, x.found(0, 8));
            CHECK.same("run " + what, Check.ILLEGAL_STATE, Check.answer(() -> x.run(9)));
            return 0;
        }
        model.findLabels(levels, entry);
        boolean safe = model.isSafe(levels, policy);
        CHECK.same("verify " + what, safe ? model.reached() : Check.ILLEGAL_STATE, got);
        for (int k = -1; k <= code.length; k++) {
            for (int w = -1; w < 18; w++) {
                CHECK.same("found " + k + " " + w + " " + what, model.found(k, w), x.found(k, w));
            }
        }
        compareRun(model, x, safe, what);
        return safe ? 2 : 1;
    }

    private static void compareRun(Model.Instructions model, LabelGuard x, boolean safe, String what) {
        int[] values = new int[8];
        for (int v = 0; v < 8; v++) {
            values[v] = RANDOM.nextInt(3) - 1;
            x.set(v, values[v]);
        }
        int most = RANDOM.nextBoolean() ? 2000 : RANDOM.nextInt(30);
        int[] ran = values.clone();
        int want = safe ? model.run(ran, most) : -1;
        CHECK.same("run " + most + " " + what, safe ? want : Check.ILLEGAL_STATE, Check.answer(() -> x.run(most)));
        for (int v = 0; v < 8; v++) {
            CHECK.same("value " + v + " " + what, want < 0 ? values[v] : ran[v], x.get(v));
        }
    }
}
