import java.util.HashMap;
import java.util.Map;
import java.util.function.Supplier;

/** A call that throws changes nothing: every answer is the same behind it as before, and so is all that comes then. */
public final class RefusalsTest {
    private static final Checks c = new Checks("RefusalsTest");
    private static final Map<Supplier<Warehouselore>, long[][]> BEFORE = new HashMap<>();

    public static void main(String[] args) {
        for (Ranges.Row row : Ranges.rows()) {
            int[] allowed = allowed(row, true);
            if (allowed != null && row.otherwise == Ranges.Else.STATE) refused(row, allowed);
            if (allowed != null && row.otherwise == Ranges.Else.STATE) refused(row, allowed(row, false));
            for (int i = 0; i < row.ranges.length; i++)
                for (int outside : row.ranges[i].outside()) {
                    int[] a = within(row);
                    a[i] = outside;
                    refused(row, a);
                }
        }
        c.close();
    }

    /** The least or the greatest of all that is allowed; null, where an argument has none. */
    private static int[] allowed(Ranges.Row row, boolean isLeast) {
        int[] a = within(row);
        for (int i = 0; i < a.length; i++) {
            if (row.ranges[i].least > row.ranges[i].most) return null;
            a[i] = isLeast ? row.ranges[i].least : row.ranges[i].most;
        }
        return a;
    }

    private static int[] within(Ranges.Row row) {
        int[] a = new int[row.ranges.length];
        for (int i = 0; i < a.length; i++) a[i] = row.ranges[i].least;
        return a;
    }

    private static void refused(Ranges.Row row, int[] a) {
        Supplier<Warehouselore> behind = () -> {
            Warehouselore x = row.scene.get();
            c.thrown(row.told(a), row.due(a), () -> row.call.on(x, a));
            return x;
        };
        long[][] before = BEFORE.computeIfAbsent(row.scene, s -> new long[][] {Answers.all(s), Answers.goingOn(s)});
        same(row.told(a), before[0], Answers.all(behind), "");
        same(row.told(a), before[1], Answers.goingOn(behind), "going on ");
    }

    private static void same(String what, long[] before, long[] behind, String how) {
        c.due(what + ": as many answers", behind.length, before.length);
        for (int i = 0; i < Math.min(before.length, behind.length); i++)
            if (before[i] != behind[i])
                c.tell(what + " was refused, but " + (how.isEmpty() ? Answers.what(i) : how + i) + " answers " + behind[i]
                    + " then, " + before[i] + " without it");
    }
}
