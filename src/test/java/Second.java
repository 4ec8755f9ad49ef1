import java.util.ArrayList;
import java.util.Arrays;
import java.util.List;

/**
 * The whole document told a second time, promise by promise, with the terms that Model and Programs tell. It keeps
 * what the promises speak of and nothing else, and works out everything anew at each call.
 */
public final class Second {
    private Model.Levels levels = new Model.Levels(1, 1);
    private int[] entry = new int[8];
    private int[] policy = new int[8];
    private int[] values = new int[8];
    private String text = "";
    private List<Programs.Statement> program = null;
    private int[] exit = null;
    private int error = -1;
    private List<int[]> code = new ArrayList<>();
    private boolean accepted = false;
    private Model.Instructions found = null;

    public boolean levels(int n, long below) {
        Model.Levels some = new Model.Levels(n, below);
        if (n < 1 || n > 6 || !some.isOrder()) {
            throw new IllegalArgumentException();
        }
        if (!some.hasAllBounds()) {
            throw new IllegalStateException();
        }
        levels = some;
        Arrays.fill(entry, some.bottom());
        Arrays.fill(policy, some.top());
        return true;
    }

    public int join(int a, int b) {
        return isLevel(a) && isLevel(b) ? levels.join(a, b) : -1;
    }

    public boolean label(int side, int variable, int level) {
        boolean there = (side == 0 || side == 1) && isVariable(variable) && isLevel(level);
        if (there) {
            (side == 0 ? entry : policy)[variable] = level;
        }
        return there;
    }

    public boolean write(long w) {
        String more = "";
        for (byte b : java.nio.ByteBuffer.allocate(8).putLong(w).array()) {
            if (b != 0 && (b < 32 || b > 126)) {
                return false;
            }
            more += b == 0 ? "" : String.valueOf((char) b);
        }
        if (text.length() + more.length() > 72) {
            return false;
        }
        text += more;
        return true;
    }

    public int compile() {
        String taken = text;
        text = "";
        error = Model.errorPosition(taken);
        if (error >= 0) {
            throw new IllegalArgumentException();
        }
        program = Programs.read(taken);
        exit = Programs.labelsOf(program, levels, levels.bottom(), entry.clone());
        for (int v = 0; v < 8; v++) {
            if (!levels.notAbove(exit[v], policy[v])) {
                throw new IllegalStateException();
            }
        }
        code = new ArrayList<>();
        Programs.emitAll(program, code);
        code.add(new int[] {9, 0});
        accepted = true;
        found = null;
        return code.size();
    }

    public int position() {
        return error;
    }

    public int exit(int variable) {
        return program != null && isVariable(variable) ? exit[variable] : -1;
    }

    public int code(int k, int what) {
        if (k == -1) {
            return code.size();
        }
        return k >= 0 && k < code.size() && (what == 0 || what == 1) ? code.get(k)[what] : -1;
    }

    public void empty() {
        code = new ArrayList<>();
        accepted = false;
        found = null;
    }

    public boolean put(int kind, int argument) {
        if (code.size() == 100) {
            return false;
        }
        code.add(new int[] {kind, argument});
        accepted = false;
        found = null;
        return true;
    }

    public int verify() {
        Model.Instructions checked = new Model.Instructions(code.toArray(new int[0][]));
        accepted = false;
        found = null;
        if (!checked.fits) {
            throw new IllegalArgumentException();
        }
        checked.findLabels(levels, entry);
        found = checked;
        if (!checked.isSafe(levels, policy)) {
            throw new IllegalStateException();
        }
        accepted = true;
        return checked.reached();
    }

    public int found(int k, int what) {
        return found == null ? -1 : found.found(k, what);
    }

    public boolean set(int variable, int value) {
        if (isVariable(variable)) {
            values[variable] = value;
        }
        return isVariable(variable);
    }

    public int get(int variable) {
        return isVariable(variable) ? values[variable] : 0;
    }

    public int run(int n) {
        if (n < 0 || n > 2000) {
            throw new IllegalArgumentException();
        }
        if (!accepted) {
            throw new IllegalStateException();
        }
        int[] after = values.clone();
        int many = new Model.Instructions(code.toArray(new int[0][])).run(after, n);
        values = many < 0 ? values : after;
        return many;
    }

    public int follow(int n) {
        if (program == null || n < 0 || n > 500) {
            return -1;
        }
        int[] after = values.clone();
        int left = Programs.followAll(program, after, n);
        values = left < 0 ? values : after;
        return left < 0 ? -1 : n - left;
    }

    private boolean isLevel(int level) {
        return level >= 0 && level < levels.n;
    }

    private static boolean isVariable(int variable) {
        return variable >= 0 && variable < 8;
    }
}
