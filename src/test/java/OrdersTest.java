/** Promises 17 to 21: orders, allocating. */
public final class OrdersTest {
    private static final int BIG = Integer.MAX_VALUE, SMALL = Integer.MIN_VALUE;
    private static final Checks c = new Checks("OrdersTest");

    public static void main(String[] args) {
        order();
        line();
        allocateByRank();
        allocateByLots();
        allocateBySlots();
        allocateByTicks();
        allocateWhole();
        allocateAgain();
        lacks();
        held();
        c.close();
    }

    private static void order() { // 17
        Warehouselore x = new Warehouselore();
        for (int bad : new int[] {-1, 10, BIG, SMALL}) c.argument("rank " + bad, () -> x.order(bad, true, 0));
        for (int bad : new int[] {-1, 1000, BIG, SMALL}) c.argument("ticks " + bad, () -> x.order(0, true, bad));
        for (int o = 0; o < 8; o++) c.due("an order's number", x.order(o == 0 ? 9 : 0, o % 2 == 0, o == 0 ? 999 : 0), o);
        c.state("a 9th", () -> x.order(0, false, 0));
        c.argument("a 9th of the rank 10", () -> x.order(10, false, 0));
        c.index("it was not opened", () -> x.boxes(8));
        x.send(0);
        c.state("sent ones count", () -> x.order(0, false, 0));
    }

    private static void line() { // 18
        Warehouselore x = new Warehouselore();
        c.index("no order yet", () -> x.line(0, 0, 1));
        x.order(0, false, 0);
        for (int o : new int[] {-1, 1, BIG, SMALL}) c.index("order " + o, () -> x.line(o, 0, 0));
        for (int i : new int[] {-1, 6, BIG, SMALL}) c.index("item " + i, () -> x.line(0, i, 0));
        for (int bad : new int[] {0, -1, 100, BIG, SMALL}) c.argument("pieces " + bad, () -> x.line(0, 0, bad));
        c.due("the first", x.line(0, 0, 99), 1);
        c.due("the second, of the same item", x.line(0, 0, 1), 2);
        c.due("the third", x.line(0, 5, 1), 3);
        c.state("a 4th", () -> x.line(0, 0, 1));
        c.argument("a 4th of 0 pieces", () -> x.line(0, 0, 0));
        c.index("it was not added", () -> x.lacks(0, 3));
        x.order(0, false, 0);
        x.send(1);
        c.state("sent", () -> x.line(1, 0, 1));
        c.argument("sent, and 0 pieces", () -> x.line(1, 0, 0));
        c.index("not added either", () -> x.lacks(1, 0));
    }

    private static void allocateByRank() { // 19
        Warehouselore x = Steps.withLots();
        Steps.lay(x, 3, 0, 10);
        int[] ranks = {3, 9, 3, 9};
        for (int o = 0; o < 4; o++) x.line(x.order(ranks[o], false, 0), 0, 4);
        c.due("all that there is", x.allocate(), 10);
        c.due("rank 9", x.held(1, 3, 0), 4);
        c.due("rank 9, the second", x.held(3, 3, 0), 4);
        c.due("rank 3", x.held(0, 3, 0), 2);
        c.due("rank 3, the second", x.held(2, 3, 0), 0);
        c.due("nothing is left", x.allocate(), 0);
        x.send(1);
        c.due("what a sent order held goes to the others", x.allocate(), 4);
        c.due("first to the order 0", x.held(0, 3, 0), 4);
        c.due("then to the order 2", x.held(2, 3, 0), 2);
        c.due("the sent one holds nothing", x.held(1, 3, 0), 0);
        Warehouselore y = Steps.withLots();
        Steps.lay(y, 3, 0, 5);
        y.order(0, false, 0);
        y.line(0, 0, 3);
        y.line(0, 1, 2);
        y.line(0, 0, 3);
        c.due("lines by their order", y.allocate(), 5);
        c.due("the first", y.lacks(0, 0), 0);
        c.due("the third", y.lacks(0, 2), 1);
        c.due("without pieces of its item", y.lacks(0, 1), 2);
    }

    private static void allocateByLots() { // 19
        Warehouselore x = new Warehouselore();
        int late = x.lot(0, 900), early = x.lot(0, 500), alike = x.lot(0, 500), other = x.lot(1, 400), gone = x.lot(0, 600);
        Steps.lay(x, 0, late, 5);
        Steps.lay(x, 1, alike, 5);
        Steps.lay(x, 2, early, 5);
        Steps.lay(x, 3, other, 5);
        Steps.lay(x, 4, gone, 5);
        x.recall(gone);
        Steps.order(x, 0, 12);
        c.due("allocated", x.allocate(), 12);
        c.due("the least end, the lowest lot", x.held(0, 2, early), 5);
        c.due("the same end", x.held(0, 1, alike), 5);
        c.due("the late one", x.held(0, 0, late), 2);
        c.due("not one of another item", x.held(0, 3, other), 0);
        c.due("not the recalled one", x.held(0, 4, gone), 0);
    }

    private static void allocateBySlots() { // 19
        int[] turn = {7, 9, 15, 2, 16};
        for (int n = 1; n <= 12; n++) {
            Warehouselore x = Steps.withLots();
            x.face(7, 0, 0, 9);
            x.face(9, 0, 0, 9);
            x.face(15, 1, 0, 9); // a face of another item is a face too
            for (int s : new int[] {2, 7, 9, 15, 16}) Steps.lay(x, s, 0, 2);
            x.find(0, 0, 9); // in truth only
            x.receive(0, 0, 9); // at the DOCK
            Steps.order(x, 0, n);
            c.due("allocated of " + n, x.allocate(), Math.min(n, 10));
            for (int k = 0; k < 5; k++)
                c.due("faces first, each by rising numbers: of " + n + " in " + turn[k], x.held(0, turn[k], 0),
                    Math.max(0, Math.min(2, n - 2 * k)));
            c.due("not in truth only", x.held(0, 0, 0), 0);
        }
        Warehouselore y = new Warehouselore();
        int early = y.lot(0, 5), late = y.lot(0, 6);
        y.face(3, 0, 0, 1);
        Steps.lay(y, 3, late, 1);
        Steps.lay(y, 17, early, 1);
        Steps.order(y, 0, 1);
        y.allocate();
        c.due("lots go before faces", y.held(0, 17, early), 1);
    }

    private static void allocateByTicks() { // 19
        Warehouselore x = new Warehouselore();
        int lot = x.lot(0, 30);
        Steps.lay(x, 0, lot, 20);
        x.pass(10);
        x.order(0, false, 21);
        x.line(0, 0, 1);
        c.due("30 is less than 10 and 21", x.allocate(), 0);
        x.order(0, false, 20);
        x.line(1, 0, 1);
        c.due("but not than 10 and 20", x.allocate(), 1);
        x.order(0, false, 0);
        x.line(2, 0, 1);
        x.pass(20);
        c.due("the end is now", x.allocate(), 1);
        x.line(2, 0, 1);
        x.pass(1);
        c.due("past the end", x.allocate(), 0);
        c.due("what is held stays", x.held(1, 0, lot), 1);
        int good = x.lot(0, 9999);
        Steps.lay(x, 9, good, 20);
        c.due("a good one", x.allocate(), 2);
        c.due("of the good one", x.held(0, 9, good), 1);
    }

    private static void allocateWhole() { // 19
        Warehouselore x = Steps.withLots();
        Steps.lay(x, 0, 0, 10);
        Steps.lay(x, 1, 1, 10);
        x.order(9, true, 0);
        x.line(0, 0, 8);
        x.line(0, 1, 11);
        x.order(1, false, 0);
        x.line(1, 0, 5);
        c.due("nothing for the whole one, all for the other", x.allocate(), 5);
        c.due("nothing of the line that could be", x.held(0, 0, 0), 0);
        c.due("nothing of the other line", x.held(0, 1, 1), 0);
        Steps.lay(x, 2, 1, 1);
        c.due("still too few of the item 0", x.allocate(), 0);
        Steps.lay(x, 3, 0, 3);
        c.due("now all of it", x.allocate(), 19);
        c.due("whole", x.lacks(0, 0) + x.lacks(0, 1), 0);
        Warehouselore y = Steps.withLots();
        Steps.lay(y, 0, 0, 10);
        y.order(9, true, 0);
        y.line(0, 0, 6);
        y.line(0, 0, 5);
        c.due("two lines of one item want 11 together", y.allocate(), 0);
        Steps.lay(y, 1, 0, 1);
        c.due("11 are there", y.allocate(), 11);
        y.line(0, 0, 2);
        c.due("what was held stays held", y.allocate(), 0);
        c.due("the first line has its pieces", y.lacks(0, 0), 0);
        Steps.lay(y, 2, 0, 2);
        c.due("what it lacks still", y.allocate(), 2);
        y.order(9, true, 0);
        c.due("an order without lines", y.allocate(), 0);
        Warehouselore w = Steps.withLots();
        Steps.lay(w, 0, 0, 5);
        w.receive(0, 1, 9);
        w.order(9, true, 0);
        w.line(0, 0, 5);
        w.line(0, 1, 1);
        c.due("pieces at the DOCK do not make it whole", w.allocate(), 0);
        Warehouselore z = Steps.withLots();
        Steps.lay(z, 0, 0, 5);
        z.order(1, true, 0);
        z.line(0, 0, 6);
        z.order(1, true, 0);
        z.line(1, 0, 5);
        c.due("what the first can't have whole goes to the next", z.allocate(), 5);
        c.due("the next", z.held(1, 0, 0), 5);
    }

    private static void allocateAgain() { // 19: each allocating makes a holding of its own, and so a PICK of its own
        Warehouselore x = Steps.withLots();
        Steps.lay(x, 0, 0, 3);
        x.order(0, false, 0);
        x.line(0, 0, 9);
        x.line(0, 0, 9);
        c.due("3", x.allocate(), 3);
        Steps.lay(x, 0, 0, 7);
        c.due("6 for the first line, 1 for the second", x.allocate(), 7);
        c.due("held together", x.held(0, 0, 0), 10);
        c.due("three holdings", x.wave(0, 1), 3);
        c.due("what was held first", x.taskAt(0), 2103);
        c.due("then", x.taskAt(1), 2106);
        c.due("then the second line", x.taskAt(2), 2101);
    }

    private static void lacks() { // 20
        Warehouselore x = Steps.withLots();
        Steps.order(x, 0, 9);
        x.line(0, 1, 4);
        c.due("all of it", x.lacks(0, 0), 9);
        c.due("of the second line", x.lacks(0, 1), 4);
        Steps.lay(x, 0, 0, 7);
        x.allocate();
        c.due("less what is held", x.lacks(0, 0), 2);
        x.wave(0, 1);
        x.lose(0, 0, 2);
        c.due("the book does not know", x.lacks(0, 0), 2);
        Steps.work(x);
        c.due("less what was picked", x.lacks(0, 0), 4);
        Steps.lay(x, 1, 0, 9);
        x.allocate();
        c.due("none", x.lacks(0, 0), 0);
        x.recall(0);
        c.due("what was held is recalled", x.lacks(0, 0), 4);
        x.send(0);
        c.due("what was sent counts as picked", x.lacks(0, 0), 4);
        x.comeBack(0, 0, 5);
        c.due("what came back too", x.lacks(0, 0), 4);
        for (int o : new int[] {-1, 1, BIG, SMALL}) c.index("order " + o, () -> x.lacks(o, 0));
        for (int l : new int[] {-1, 2, 3, BIG, SMALL}) c.index("line " + l, () -> x.lacks(0, l));
    }

    private static void held() { // 21
        Warehouselore x = Steps.withLots();
        Steps.lay(x, 4, 0, 9);
        Steps.lay(x, 4, 1, 9);
        Steps.lay(x, 5, 0, 1);
        Steps.order(x, 0, 6);
        Steps.order(x, 0, 2);
        x.line(0, 0, 1);
        x.line(0, 1, 3);
        c.due("held in all", x.allocate(), 12);
        c.due("two lines of it", x.held(0, 4, 0), 7);
        c.due("another lot", x.held(0, 4, 1), 3);
        c.due("another order", x.held(1, 4, 0), 2);
        c.due("another slot", x.held(0, 5, 0), 0);
        c.due("a slot with none", x.held(0, 17, 0), 0);
        x.wave(0, 1);
        c.due("with a task as well", x.held(0, 4, 0), 7);
        Steps.work(x);
        c.due("picked", x.held(0, 4, 0), 0);
        c.due("of the other order still", x.held(1, 4, 0), 2);
        x.face(0, 1, 1, 2);
        x.refill();
        c.due("a refilling is not held for an order", x.held(0, 4, 1) + x.held(1, 4, 1), 0);
        x.send(1);
        c.due("sent", x.held(1, 4, 0), 0);
        c.due("and free again", x.free(4, 0), 2);
        for (int o : new int[] {-1, 2, BIG, SMALL}) c.index("order " + o, () -> x.held(o, 0, 0));
        for (int s : new int[] {-1, 18, BIG, SMALL}) c.index("slot " + s, () -> x.held(0, s, 0));
        for (int l : new int[] {-1, 6, BIG, SMALL}) c.index("lot " + l, () -> x.held(0, 0, l));
    }
}
