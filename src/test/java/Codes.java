import java.util.ArrayList;
import java.util.Collections;
import java.util.List;
import java.util.Random;

/** Random code that no program has. */
final class Codes {
    private final Random random;

    Codes(Random random) {
        this.random = random;
    }

    /** The same code in any order, a JUMP behind each instruction, so that nothing can lean on the order. */
    int[][] scattered(int[][] code) {
        List<Integer> places = new ArrayList<>();
        for (int k = 0; k < code.length; k++) {
            places.add(1 + 2 * k);
        }
        Collections.shuffle(places, random);
        int[][] all = new int[1 + 2 * code.length][];
        all[0] = new int[] {8, places.get(0)};
        for (int k = 0; k < code.length; k++) {
            boolean aims = code[k][0] == 7 || code[k][0] == 8;
            boolean there = code[k][1] >= 0 && code[k][1] < code.length;
            all[places.get(k)] = new int[] {code[k][0], aims && there ? places.get(code[k][1]) : code[k][1]};
            all[places.get(k) + 1] = new int[] {8, k + 1 < code.length ? places.get(k + 1) : -1};
        }
        int last = places.get(code.length - 1);
        all[last + 1][1] = all[last][0] == 9 ? 0 : all.length;
        return all;
    }

    /** Any instructions, most of them with arguments that fit. */
    int[][] wildCode() {
        int[][] code = new int[random.nextInt(9)][];
        for (int k = 0; k < code.length; k++) {
            int kind = random.nextInt(20) == 0 ? random.nextInt(14) - 2 : random.nextInt(10);
            code[k] = new int[] {kind, random.nextInt(20) == 0 ? random.nextInt(12) - 2 : random.nextInt(code.length)};
        }
        if (code.length > 0 && random.nextInt(3) > 0) {
            code[code.length - 1][0] = 9;
        }
        return code;
    }

    /** Heights are chosen first; what goes on elsewhere goes where the height is the same. */
    int[][] tameCode() {
        int most = random.nextInt(10) == 0 ? 100 : 4 + random.nextInt(36);
        int branchy = random.nextInt(7);
        List<int[]> code = new ArrayList<>();
        List<Integer> heights = new ArrayList<>();
        int height = 0;
        while (code.size() < most - 9) {
            heights.add(height);
            int pick = random.nextInt(10 + branchy);
            int variable = random.nextInt(4);
            if (pick < 4 && height < 8 || height == 0 && pick < 8) {
                code.add(random.nextInt(4) == 0 ? new int[] {0, random.nextInt()} : new int[] {1, variable});
                height++;
            } else if (pick < 6 && height > 0) {
                code.add(new int[] {2, variable});
                height--;
            } else if (pick < 8 && height > 1) {
                code.add(new int[] {3 + random.nextInt(4), random.nextInt(3)});
                height--;
            } else if (height > 0 && pick >= 9) {
                code.add(new int[] {7, -1 - --height});
            } else if (height == 0 && random.nextInt(6) == 0) {
                code.add(new int[] {9, random.nextInt(5)});
            } else if (height > 0 || random.nextInt(3) == 0) {
                code.add(new int[] {8, -1 - height});
            } else {
                heights.remove(heights.size() - 1);
            }
        }
        for (; height > 0; height--) {
            heights.add(height);
            code.add(new int[] {2, random.nextInt(8)});
        }
        heights.add(0);
        code.add(new int[] {9, 0});
        for (int k = 0; k < code.size(); k++) {
            int[] one = code.get(k);
            if (one[0] == 7 || one[0] == 8) {
                one[1] = placeOf(heights, -1 - one[1], k);
            }
        }
        return code.toArray(new int[0][]);
    }

    private int placeOf(List<Integer> heights, int height, int from) {
        List<Integer> places = new ArrayList<>();
        boolean onward = random.nextInt(3) > 0;
        for (int k = 0; k < heights.size(); k++) {
            if (heights.get(k) == height && (!onward || k > from)) {
                places.add(k);
            }
        }
        return places.isEmpty() ? 0 : places.get(random.nextInt(places.size()));
    }
}
