/**
 * Each call with each mixture of edges: the last value that is allowed and the first one that is not, on either side
 * of each argument, and the least and the greatest int. Of several exceptions the one that is listed first is due.
 */
public final class RangesTest {
    private static final Checks c = new Checks("RangesTest");

    public static void main(String[] args) {
        for (Ranges.Row row : Ranges.rows()) mixtures(row, new int[row.ranges.length], 0);
        c.close();
    }

    private static void mixtures(Ranges.Row row, int[] a, int at) {
        if (at < a.length) {
            for (int value : row.ranges[at].edges()) {
                a[at] = value;
                mixtures(row, a, at + 1);
            }
            return;
        }
        if (!row.isFree(a)) check(row, a.clone());
    }

    private static void check(Ranges.Row row, int[] a) {
        Warehouselore x = row.scene.get();
        Class<? extends RuntimeException> due = row.due(a);
        if (due != null) {
            c.thrown(row.told(a), due, () -> row.call.on(x, a));
            return;
        }
        try {
            row.call.on(x, a);
            c.due(row.told(a), true, true);
        } catch (RuntimeException e) {
            c.tell(row.told(a) + " threw " + e + ", due is an answer");
        }
    }
}
