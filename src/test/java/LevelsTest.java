import java.util.Random;

/** Random orders, and what is nearly one, against the model. */
public final class LevelsTest {
    public static void main(String[] args) {
        Check check = new Check();
        Random random = new Random(20261116);
        int lattices = 0;
        LabelGuard x = new LabelGuard();
        Model.Levels now = new Model.Levels(1, 1L);
        for (int i = 0; i < 20000; i++) {
            Model.Levels some = Model.Levels.random(random);
            String want = !some.isOrder() ? Check.ILLEGAL_ARGUMENT
                    : some.hasAllBounds() ? "true" : Check.ILLEGAL_STATE;
            LabelGuard guard = x;
            check.due("levels(" + some.n + ", " + some.below + ")", want, () -> guard.levels(some.n, some.below));
            if (want.equals("true")) {
                now = some;
                lattices++;
            }
            compareJoins(check, x, now);
            compareLabels(check, x, now);
        }
        check.same("many lattices were tried", true, lattices > 2000);
        check.end();
    }

    private static void compareJoins(Check check, LabelGuard x, Model.Levels now) {
        for (int a = -1; a < 7; a++) {
            for (int b = -1; b < 7; b++) {
                boolean there = a >= 0 && b >= 0 && a < now.n && b < now.n;
                int p = a;
                int q = b;
                check.due("join(" + a + ", " + b + ")", there ? now.join(a, b) : -1, () -> x.join(p, q));
            }
        }
    }

    private static void compareLabels(Check check, LabelGuard x, Model.Levels now) {
        check.due("lowest entry", 1, x::compile);
        check.due("entry", now.bottom(), () -> x.exit(7));
        x.label(0, 3, now.top());
        check.due("highest policy", 3, () -> Check.compiled(x, "c=d;"));
        check.due("exit", now.top(), () -> x.exit(2));
        x.label(0, 3, now.bottom());
    }
}
