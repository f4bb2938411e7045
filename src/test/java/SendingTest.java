/** Promises 33 to 41: boxes, sending, returns, recalls, the bill. */
public final class SendingTest {
    private static final int DOCK = Warehouselore.DOCK, QUARANTINE = Warehouselore.QUARANTINE;
    private static final int BIG = Integer.MAX_VALUE, SMALL = Integer.MIN_VALUE;
    private static final Checks c = new Checks("SendingTest");

    public static void main(String[] args) {
        boxesBySizeAndWeight();
        boxesByTurn();
        boxesByBars();
        boxesThatWereSent();
        boxesOfOthers();
        boxesThrow();
        send();
        sendWithTasks();
        sent();
        received();
        comeBack();
        judge();
        recall();
        recallWithTasks();
        bill();
        c.close();
    }

    /** An order of up to three items, picked: pieces of each lie in the slots 0, 6 and 12. */
    private static Warehouselore picked(int[][] items, int[] wanted) {
        Warehouselore x = new Warehouselore();
        for (int i = 0; i < items.length; i++) x.item(i, 0, items[i][0], items[i][1], items[i][2], 1);
        x.order(0, false, 0);
        for (int i = 0; i < items.length; i++) {
            Steps.lay(x, 6 * i, x.lot(i, 9999), wanted[i]);
            x.line(0, i, wanted[i]);
        }
        x.allocate();
        x.wave(0, 1);
        Steps.work(x);
        return x;
    }

    private static void boxes(String what, Warehouselore x, int... due) {
        c.due(what + ": how many", x.boxes(0), due.length);
        for (int b = 0; b < due.length; b++) c.due(what + ": the box " + b, x.boxAt(0, b), due[b]);
        c.index(what + ": no more", () -> x.boxAt(0, due.length));
    }

    private static void boxesBySizeAndWeight() { // 33, 34
        boxes("up to the size 30", picked(new int[][] {{6, 1, 0}}, new int[] {5}), 5005);
        boxes("above 30", picked(new int[][] {{6, 1, 0}}, new int[] {6}), 5005, 1001);
        boxes("up to the weight 50", picked(new int[][] {{1, 10, 0}}, new int[] {5}), 50005);
        boxes("above 50", picked(new int[][] {{1, 10, 0}}, new int[] {6}), 50005, 10001);
        boxes("9s and 20s", picked(new int[][] {{9, 20, 0}}, new int[] {99}), twos());
        boxes("one piece", picked(new int[][] {{9, 20, 0}}, new int[] {1}), 20001);
    }

    private static int[] twos() {
        int[] boxes = new int[50];
        for (int b = 0; b < 49; b++) boxes[b] = 40002;
        boxes[49] = 20001;
        return boxes;
    }

    private static void boxesByTurn() { // 33, 34
        // Four 7s fill 28 of the first box; a 2 fits there still, behind the 5s, which do not.
        boxes("by falling sizes", picked(new int[][] {{2, 1, 0}, {7, 2, 0}, {5, 3, 0}}, new int[] {3, 5, 2}),
            9005, 10005);
        boxes("of the same size by rising items", picked(new int[][] {{5, 20, 0}, {5, 1, 0}}, new int[] {3, 11}),
            44006, 25006, 2002);
        boxes("into the first box in which it fits, though later ones are open",
            picked(new int[][] {{9, 17, 0}, {8, 1, 0}, {1, 8, 0}}, new int[] {5, 1, 9}), 43004, 50004, 49005, 16002);
    }

    private static void boxesByBars() { // 33, 34
        Warehouselore x = picked(new int[][] {{3, 1, 0}, {2, 1, 1}, {1, 1, 2}}, new int[] {2, 2, 2});
        boxes("all together", x, 6006);
        x.bar(1, 0, true);
        boxes("0 and 1 apart, 2 in the first", x, 4004, 2002);
        x.bar(2, 0, true);
        boxes("0 alone", x, 2002, 4004);
        x.bar(2, 1, true);
        boxes("all apart", x, 2002, 2002, 2002);
        x.bar(2, 2, true);
        x.bar(0, 0, true);
        boxes("barred from itself is no bar for the same item", x, 2002, 2002, 2002);
        Warehouselore y = picked(new int[][] {{3, 1, 3}, {2, 1, 3}}, new int[] {2, 2});
        boxes("one group", y, 4004);
        y.bar(3, 3, true);
        boxes("one group that is barred from itself", y, 2002, 2002);
    }

    private static void boxesThatWereSent() { // 33, 34
        Warehouselore x = picked(new int[][] {{3, 1, 0}, {2, 1, 1}}, new int[] {2, 2});
        x.bar(0, 1, true);
        boxes("before", x, 2002, 2002);
        c.due("sent", x.send(0), 4);
        x.bar(0, 1, false);
        boxes("as it was packed then", x, 2002, 2002);
        x.comeBack(0, 0, 2);
        x.bar(0, 1, true);
        boxes("what came back was packed then", x, 2002, 2002);
        Warehouselore y = picked(new int[][] {{3, 1, 0}, {2, 1, 1}}, new int[] {2, 2});
        y.send(0);
        y.bar(0, 1, true);
        boxes("a bar that came later", y, 4004);
    }

    private static void boxesOfOthers() { // 33, 34, 35, 36
        Warehouselore x = Steps.withLots();
        for (int l = 0; l < 3; l++) {
            Steps.lay(x, 6 * l, l, 40);
            Steps.order(x, l, 31 + l);
        }
        x.allocate();
        x.wave(0, 7);
        Steps.work(x);
        c.due("a box, without boxes asked for before", x.boxAt(2, 1), 3003);
        c.due("of another order", x.boxAt(0, 1), 1001);
        c.due("of the order 1", x.boxes(1), 2);
        c.due("its stand", x.stock(21, 1), 32);
        c.due("sent with the order 1", x.send(1), 32);
        c.due("its stand is empty", x.stock(21, 1), 0);
        c.due("the others stay", x.stock(20, 0) + x.stock(22, 2), 31 + 33);
        c.due("as it was packed", x.boxAt(1, 1), 2002);
        c.due("sent of its lot", x.sent(1, 1), 32);
        c.due("not with another order", x.sent(0, 1) + x.sent(2, 1), 0);
    }

    private static void boxesThrow() { // 33, 34
        Warehouselore x = picked(new int[][] {{1, 1, 0}}, new int[] {2});
        for (int o : new int[] {-1, 1, BIG, SMALL}) {
            c.index("boxes of " + o, () -> x.boxes(o));
            c.index("a box of " + o, () -> x.boxAt(o, 0));
        }
        for (int b : new int[] {-1, 1, BIG, SMALL}) c.index("box " + b, () -> x.boxAt(0, b));
        x.order(0, false, 0);
        c.due("nothing at its stand", x.boxes(1), 0);
        c.index("no box", () -> x.boxAt(1, 0));
    }

    private static void send() { // 35
        Warehouselore x = picked(new int[][] {{1, 1, 0}, {1, 1, 0}}, new int[] {3, 4});
        for (int o : new int[] {-1, 1, BIG, SMALL}) c.index("order " + o, () -> x.send(o));
        int bill = x.bill();
        c.due("pieces", x.send(0), 7);
        c.due("5 for a box", x.bill(), bill + 5);
        c.due("the stand is empty", x.stock(20, 0) + x.stock(20, 1), 0);
        c.state("sent already", () -> x.send(0));
        c.due("nothing more on the bill", x.bill(), bill + 5);
        x.order(0, false, 0);
        c.due("one without anything", x.send(1), 0);
        c.due("no box", x.boxes(1), 0);
        c.state("it is sent too", () -> x.send(1));
    }

    private static void sendWithTasks() { // 35
        Warehouselore x = Steps.withLots();
        Steps.lay(x, 0, 0, 9);
        Steps.lay(x, 6, 0, 9);
        Steps.lay(x, 12, 0, 9);
        Steps.order(x, 0, 24);
        Steps.order(x, 0, 2);
        x.allocate();
        x.wave(0, 3); // 0: 9, 1: 9, 2: 6, 3: 2
        x.pass(2);
        c.due("the first is picked", x.taskAt(0), 2209);
        x.line(0, 0, 1);
        c.due("held without a task", x.allocate(), 1);
        x.pass(1);
        c.due("on its way", x.where(0), 10);
        c.due("sent as it is", x.send(0), 9);
        c.due("DONE stays", x.taskAt(0), 2209);
        c.due("GONE", x.taskAt(1), 2309);
        c.due("GONE, too", x.taskAt(2), 2306);
        c.due("of another order", x.taskAt(3), 2102);
        c.due("that is the first of the row then", x.doing(0), 3);
        c.due("free again", x.free(6, 0) + x.free(12, 0), 9 + 9 - 2);
        c.due("held for nobody", x.held(0, 6, 0) + x.held(0, 12, 0), 0);
        c.due("it lacks what was not picked", x.lacks(0, 0), 15);
        Steps.work(x);
        c.due("the other goes on", x.stock(21, 0), 2);
        c.due("no allocating for what was sent", x.allocate(), 0);
        c.due("nor a wave", x.wave(0, 1), 0);
    }

    private static void sent() { // 36
        Warehouselore x = picked(new int[][] {{1, 1, 0}, {1, 1, 0}}, new int[] {3, 4});
        c.due("not yet", x.sent(0, 0), 0);
        x.send(0);
        c.due("of the lot 0", x.sent(0, 0), 3);
        c.due("of the lot 1", x.sent(0, 1), 4);
        x.comeBack(0, 1, 3);
        c.due("what has not come back", x.sent(0, 1), 1);
        c.due("of the other", x.sent(0, 0), 3);
        x.order(0, false, 0);
        c.due("of another order", x.sent(1, 0), 0);
        for (int o : new int[] {-1, 2, BIG, SMALL}) c.index("order " + o, () -> x.sent(o, 0));
        for (int l : new int[] {-1, 2, BIG, SMALL}) c.index("lot " + l, () -> x.sent(0, l));
    }

    private static void received() { // 37
        Warehouselore x = Steps.withLots();
        x.notice(1, 1);
        x.receive(0, 0, 3);
        x.receive(0, 0, 4);
        x.receive(1, 0, 9);
        x.receive(0, 5, 2);
        c.due("of the lot 0", x.received(0, 0), 7);
        c.due("another one", x.received(0, 5), 2);
        c.due("none", x.received(0, 1), 0);
        c.due("against another notice", x.received(1, 0), 9);
        x.close(0);
        x.putAway(0, 16);
        x.give(0, 0);
        Steps.work(x);
        c.due("wherever they went", x.received(0, 0), 7);
        for (int n : new int[] {-1, 2, BIG, SMALL}) c.index("notice " + n, () -> x.received(n, 0));
        for (int l : new int[] {-1, 6, BIG, SMALL}) c.index("lot " + l, () -> x.received(0, l));
    }

    private static void comeBack() { // 38
        Warehouselore x = picked(new int[][] {{1, 1, 0}, {1, 1, 0}}, new int[] {3, 4});
        c.state("not sent", () -> x.comeBack(0, 0, 1));
        x.send(0);
        int bill = x.bill();
        for (int o : new int[] {-1, 1, BIG, SMALL}) c.index("order " + o, () -> x.comeBack(o, 0, 0));
        for (int l : new int[] {-1, 2, BIG, SMALL}) c.index("lot " + l, () -> x.comeBack(0, l, 0));
        for (int bad : new int[] {0, -1, 100, BIG, SMALL}) c.argument("pieces " + bad, () -> x.comeBack(0, 0, bad));
        c.state("3 were sent", () -> x.comeBack(0, 0, 4));
        c.due("nothing has changed", x.sent(0, 0) * 100 + x.stock(QUARANTINE, 0), 300);
        c.due("nor the bill", x.bill(), bill);
        c.due("2", x.comeBack(0, 0, 2), 2);
        c.due("2 for each", x.bill(), bill + 4);
        c.due("in QUARANTINE", x.stock(QUARANTINE, 0), 2);
        c.state("only 1 has not come back", () -> x.comeBack(0, 0, 2));
        c.due("the last", x.comeBack(0, 0, 1), 3);
        c.due("of the other lot", x.comeBack(0, 1, 4), 4);
        c.state("all came back", () -> x.comeBack(0, 1, 1));
        x.recall(0);
    }

    private static void judge() { // 39
        Warehouselore x = picked(new int[][] {{1, 1, 0}, {1, 1, 0}}, new int[] {9, 4});
        c.state("none is there", () -> x.judge(0, 1, true));
        x.send(0);
        x.comeBack(0, 0, 7);
        int bill = x.bill();
        c.due("2 good ones", x.judge(0, 2, true), 5);
        c.due("go to the DOCK", x.stock(DOCK, 0), 2);
        c.due("and are free", x.free(DOCK, 0), 2);
        c.due("1 bad one", x.judge(0, 1, false), 4);
        c.due("is gone", x.stock(DOCK, 0) + x.stock(QUARANTINE, 0), 6);
        c.due("it counts as come back", x.sent(0, 0), 2);
        for (int l : new int[] {-1, 2, BIG, SMALL}) c.index("lot " + l, () -> x.judge(l, 0, true));
        for (int bad : new int[] {0, -1, 100, BIG, SMALL}) c.argument("pieces " + bad, () -> x.judge(0, bad, true));
        c.state("4 are there", () -> x.judge(0, 5, false));
        c.state("of another lot", () -> x.judge(1, 1, true));
        c.due("all", x.judge(0, 4, false), 0);
        c.due("nothing on the bill", x.bill(), bill);
        c.due("to put away", x.putAway(0, 2), 0);
    }

    private static void recall() { // 40
        Warehouselore x = picked(new int[][] {{1, 1, 0}, {1, 1, 0}}, new int[] {3, 4});
        x.send(0);
        Steps.lay(x, 2, 0, 5);
        Steps.order(x, 0, 5);
        x.allocate();
        x.wave(0, 2);
        Steps.work(x);
        x.send(1);
        x.comeBack(1, 0, 1);
        for (int l : new int[] {-1, 2, BIG, SMALL}) c.index("lot " + l, () -> x.recall(l));
        c.due("3 and 5, of which 1 came back", x.recall(0), 7);
        c.state("recalled", () -> x.recall(0));
        c.due("of the other lot", x.recall(1), 4);
        c.due("a lot that was never sent", x.recall(x.lot(1, 5)), 0);
    }

    private static void recallWithTasks() { // 40
        Warehouselore x = Steps.withLots();
        Steps.lay(x, 0, 0, 30);
        Steps.lay(x, 1, 1, 5);
        Steps.order(x, 0, 4);
        x.allocate();
        x.wave(0, 1); // 0
        Steps.work(x);
        c.due("at the stand", x.stock(20, 0), 4);
        Steps.order(x, 0, 6);
        x.line(1, 1, 2);
        x.allocate();
        x.wave(1, 2); // 1, 2
        Steps.order(x, 0, 3);
        x.allocate();
        x.face(17, 0, 5, 5);
        x.refill(); // 3
        x.receive(0, 0, 9);
        x.putAway(0, 9); // 4
        c.due("not sent yet", x.recall(0), 0);
        c.due("DONE stays", x.taskAt(0), 2204);
        c.due("GONE", x.taskAt(1), 2306);
        c.due("of another lot", x.taskAt(2), 2102);
        c.due("that is the first of the row then", x.doing(1), 2);
        c.due("the REFILL stays", x.taskAt(3), 1005);
        c.due("the PUT stays", x.taskAt(4), 9);
        c.due("what is at the stand stays", x.stock(20, 0), 4);
        c.due("what was held is not", x.held(1, 0, 0) + x.held(2, 0, 0), 0);
        c.due("without a task too", x.lacks(2, 0), 3);
        c.due("held by the REFILL", x.free(0, 0), 21);
        c.due("not allocated any more", x.allocate(), 0);
        x.give(2, 3);
        x.give(2, 4);
        Steps.work(x);
        c.due("refilled", x.stock(17, 0), 5);
        c.due("put away", x.taskAt(4), 209);
        x.face(16, 0, 5, 5);
        c.due("no refilling with it", x.refill(), 0);
        c.due("it can be sent still", x.send(0), 4);
    }

    private static void bill() { // 41
        Warehouselore x = Steps.withLots();
        c.due("nothing", x.bill(), 0);
        x.receive(0, 0, 20);
        c.due("2 for each that was received", x.bill(), 40);
        x.putAway(0, 20);
        x.give(0, 0);
        x.pass(2);
        c.due("nothing for a PUT that is not DONE", x.bill(), 40);
        x.pass(1);
        c.due("3 for a PUT, of however many", x.bill(), 43);
        x.face(1, 0, 1, 6);
        x.refill();
        x.give(0, 1);
        x.pass(2);
        c.due("nothing for a REFILL that is loaded", x.bill(), 43);
        Steps.work(x);
        c.due("4 for a REFILL", x.bill(), 47);
        Steps.order(x, 0, 9);
        x.allocate();
        x.wave(0, 1);
        Steps.work(x);
        c.due("1 for each that was picked", x.bill(), 56);
        x.count(0, 0);
        x.count(0, 0);
        c.due("6 for each count", x.bill(), 68);
        x.boxes(0);
        x.boxAt(0, 0);
        c.due("nothing for boxes that are looked at", x.bill(), 68);
        x.send(0);
        c.due("5 for a box", x.bill(), 73);
        x.comeBack(0, 0, 3);
        c.due("2 for each that came back", x.bill(), 79);
        x.judge(0, 3, true);
        x.recall(0);
        c.due("nothing for these", x.bill(), 79);
        c.state("a call that throws", () -> x.comeBack(0, 0, 99));
        c.index("a count that throws", () -> x.count(0, 6));
        c.due("nothing for what threw", x.bill(), 79);
    }
}
