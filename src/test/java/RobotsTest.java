/** Promises 22 to 29: waves, tasks, robots. */
public final class RobotsTest {
    private static final int NONE = Warehouselore.NONE, DOCK = Warehouselore.DOCK;
    private static final int BIG = Integer.MAX_VALUE, SMALL = Integer.MIN_VALUE;
    private static final Checks c = new Checks("RobotsTest");

    public static void main(String[] args) {
        wave();
        waveBySlots();
        waveThrows();
        give();
        pass();
        passWithPut();
        passWithRefill();
        passWaiting();
        whereAndDoing();
        tasksAndTaskAt();
        standstillOfTwo();
        standstillOfThree();
        standstillKeepsLoads();
        noStandstill();
        c.close();
    }

    private static void wave() { // 22
        Warehouselore x = Steps.withLots();
        Steps.lay(x, 0, 0, 50);
        for (int o = 0; o < 4; o++) Steps.order(x, 0, o + 1);
        c.due("nothing is held", x.wave(0, 255), 0);
        x.allocate();
        x.send(3);
        c.due("orders 1 and 3, that was sent, and 7, that is none", x.wave(2, 2 + 8 + 128), 1);
        c.due("TAKEN at once", x.taskAt(0), 2102);
        c.due("in the row of the robot", x.doing(2), 0);
        c.due("not twice", x.wave(1, 2), 0);
        c.due("the others", x.wave(2, 255), 2);
        c.due("they come behind", x.doing(2), 0);
        c.due("of the order 0", x.taskAt(1), 2101);
        c.due("of the order 2", x.taskAt(2), 2103);
        c.due("nothing more", x.wave(0, 255), 0);
        c.due("the robot 0 has none", x.doing(0), NONE);
    }

    private static void waveBySlots() { // 22
        Warehouselore x = Steps.withLots();
        int[] slots = {0, 5, 1, 6, 11, 7, 12, 17, 13};
        int[] turn = {0, 1, 5, 11, 7, 6, 12, 13, 17};
        for (int s : slots) Steps.lay(x, s, 0, s + 1); // as many pieces as the slot tells
        Steps.order(x, 0, 99);
        x.allocate();
        c.due("nine PICKs", x.wave(0, 1), 9);
        for (int k = 0; k < 9; k++)
            c.due("0 and 2 by rising positions, 1 by falling ones: " + k, x.taskAt(k), 2101 + turn[k]);
        Warehouselore y = Steps.withLots();
        int late = y.lot(1, 1);
        Steps.lay(y, 4, 0, 30);
        Steps.lay(y, 4, 1, 30);
        Steps.lay(y, 4, late, 1);
        y.order(0, false, 0);
        y.order(9, false, 0);
        y.line(1, 1, 31);
        y.line(1, 0, 3);
        y.line(0, 1, 4);
        y.line(0, 0, 5);
        y.allocate(); // the order 1 before the order 0, its lot 1 before the lot 0, the late lot first of all
        y.line(0, 0, 6);
        y.line(1, 0, 7);
        y.allocate();
        c.due("PICKs", y.wave(0, 3), 6);
        int[] due = {2105, 2106, 2103, 2107, 2130, 2101};
        for (int k = 0; k < 6; k++) c.due("by lots, then by orders, then what was held first: " + k, y.taskAt(k), due[k]);
        Warehouselore z = Steps.withLots();
        Steps.lay(z, 4, 0, 30);
        Steps.lay(z, 4, 1, 30);
        for (int o = 0; o < 8; o++) z.order(o == 0 ? 9 : 0, false, 0);
        z.line(0, 1, 3);
        z.line(7, 0, 4);
        z.allocate();
        c.due("of the first and of the last order", z.wave(0, 255), 2);
        c.due("the lot 0, though its order is the last", z.taskAt(0), 2104);
    }

    private static void waveThrows() { // 22
        Warehouselore x = Steps.withLots();
        for (int r : new int[] {-1, 3, BIG, SMALL}) c.index("robot " + r, () -> x.wave(r, 0));
        for (int bad : new int[] {0, -1, 256, BIG, SMALL}) c.argument("orders " + bad, () -> x.wave(0, bad));
        x.receive(0, 0, 99);
        for (int k = 0; k < 58; k++) x.putAway(0, 1);
        for (int s = 1; s < 4; s++) Steps.lay(x, s, 1, 1);
        Steps.order(x, 1, 3);
        x.allocate();
        c.state("there would be 61", () -> x.wave(0, 1));
        c.index("argument first: robot", () -> x.wave(3, 1));
        c.argument("argument first: orders", () -> x.wave(0, 0));
        c.due("nothing has changed", x.tasks(), 58);
        c.due("no row either", x.doing(0), NONE);
        x.putAway(0, 1);
        c.state("62", () -> x.wave(0, 255));
        c.due("others than these", x.wave(0, 254), 0);
        Warehouselore y = Steps.withLots();
        y.receive(0, 0, 99);
        for (int k = 0; k < 57; k++) y.putAway(0, 1);
        for (int s = 1; s < 4; s++) Steps.lay(y, s, 1, 1);
        Steps.order(y, 1, 3);
        y.allocate();
        c.due("exactly 60", y.wave(0, 1), 3);
        c.due("60", y.tasks(), 60);
        c.due("none more is no 61st", y.wave(0, 1), 0);
    }

    private static void give() { // 23
        Warehouselore x = Steps.withLots();
        x.receive(0, 0, 9);
        for (int k = 0; k < 4; k++) x.putAway(0, 1);
        for (int r : new int[] {-1, 3, BIG, SMALL}) c.index("robot " + r, () -> x.give(r, 0));
        for (int t : new int[] {-1, 4, BIG, SMALL}) c.index("task " + t, () -> x.give(0, t));
        c.due("one", x.give(0, 2), 1);
        c.due("two", x.give(0, 0), 2);
        c.due("of another robot", x.give(1, 1), 1);
        c.state("TAKEN", () -> x.give(0, 2));
        c.state("TAKEN, by another", () -> x.give(2, 2));
        c.due("nothing has changed", x.doing(2), NONE);
        c.due("it is TAKEN", x.taskAt(2), 101);
        c.due("OPEN still", x.taskAt(3), 1);
        c.due("the first that was given", x.doing(0), 2);
        Steps.work(x);
        c.state("DONE", () -> x.give(0, 2));
        c.due("the row was done", x.give(0, 3), 1);
        Warehouselore y = Steps.withLots();
        Steps.lay(y, 0, 0, 9);
        y.face(3, 0, 1, 2);
        y.refill();
        y.receive(0, 1, 9);
        y.putAway(1, 1);
        y.lose(0, 0, 9);
        y.count(0, 0);
        y.count(0, 0);
        c.state("GONE", () -> y.give(0, 0));
        Steps.lay(y, 0, 0, 9);
        y.refill();
        y.give(0, 2);
        y.give(0, 1);
        y.lose(0, 0, 9);
        y.count(0, 0);
        y.count(0, 0);
        y.putAway(1, 1);
        c.due("what is GONE is in no row", y.give(0, 3), 2);
        c.due("and not the first of it", y.doing(0), 1);
    }

    private static void pass() { // 24
        Warehouselore x = new Warehouselore();
        for (int bad : new int[] {0, -1, 51, BIG, SMALL}) c.argument("ticks " + bad, () -> x.pass(bad));
        c.due("one", x.pass(1), 1);
        c.due("fifty", x.pass(50), 51);
        c.due("two", x.pass(2), 53);
    }

    private static void passWithPut() { // 24
        Warehouselore x = Steps.withLots();
        Steps.onlyRoomIn(x, 8);
        c.due("the slot", Steps.put(x, 1, 0, 5), 8);
        Steps.put(x, 1, 0, 3);
        int[] where = {NONE, 10, 11, 12, 12, NONE, NONE, 10, 11, 12, 12, NONE, NONE};
        int[] there = {0, 0, 0, 0, 5, 5, 5, 5, 5, 5, 8, 8, 8};
        int[] doing = {0, 0, 0, 0, 1, 1, 1, 1, 1, 1, NONE, NONE, NONE};
        for (int k = 0; k < where.length; k++) {
            c.due("now", x.pass(1), k + 1);
            c.due("where in the tick " + (k + 1), x.where(1), where[k]);
            c.due("in the slot in the tick " + (k + 1), x.stock(8, 0), there[k]);
            c.due("at the DOCK in the tick " + (k + 1), x.stock(DOCK, 0), 8 - there[k]);
            c.due("doing in the tick " + (k + 1), x.doing(1), doing[k]);
        }
        c.due("DONE", x.taskAt(0), 205);
        c.due("in truth as well", x.count(8, 0), 8);
    }

    private static void passWithRefill() { // 24
        Warehouselore x = Steps.withLots();
        Steps.lay(x, 3, 0, 9);
        x.face(1, 0, 1, 9);
        x.face(13, 0, 1, 9);
        Steps.lay(x, 13, 0, 1);
        x.refill();
        x.give(0, 0);
        int[] where = {0, 1, 2, 3, 3, 2, 1, 1, NONE, NONE};
        for (int k = 0; k < where.length; k++) {
            x.pass(1);
            c.due("where in the tick " + (k + 1), x.where(0), where[k]);
            c.due("in the face in the tick " + (k + 1), x.stock(1, 0), k < 7 ? 0 : 9);
            c.due("where it comes from in the tick " + (k + 1), x.stock(3, 0), k < 7 ? 9 : 0);
        }
        c.due("DONE", x.taskAt(0), 1209);
        Warehouselore y = Steps.withLots();
        Steps.lay(y, 2, 0, 9);
        y.face(9, 0, 1, 6);
        y.refill();
        y.give(0, 0);
        y.pass(4);
        c.due("loaded", y.where(0), 2);
        y.lose(2, 0, 5);
        y.pass(1);
        c.due("into the other aisle, to the position 0", y.where(0), 10);
        y.pass(4);
        c.due("by the book all 6", y.stock(9, 0), 6);
        c.due("by the book 3 are left", y.stock(2, 0), 3);
        c.due("in truth the 4 that were there", y.count(9, 0), 4);
        c.due("and none is left", y.count(2, 0), 0);
        c.due("DONE with what it wanted", y.taskAt(0), 1206);
        Warehouselore z = Steps.withLots();
        Steps.lay(z, 2, 0, 9);
        z.face(9, 0, 1, 6);
        z.refill();
        z.give(0, 0);
        z.pass(4);
        z.find(2, 0, 5);
        Steps.work(z);
        c.due("no more than it wants", z.count(9, 0), 6);
        c.due("the rest stays", z.count(2, 0), 8);
    }

    private static void passWaiting() { // 24
        Warehouselore x = Steps.withLots();
        Steps.onlyRoomIn(x, 1);
        Steps.put(x, 0, 0, 2);
        Steps.put(x, 1, 0, 2);
        int[] where0 = {NONE, 0, 1, 1, NONE, NONE, NONE, NONE};
        int[] where1 = {NONE, NONE, NONE, NONE, 0, 1, 1, NONE};
        for (int k = 0; k < where0.length; k++) {
            x.pass(1);
            c.due("the first in the tick " + (k + 1), x.where(0), where0[k]);
            c.due("the other waits until the aisle is free: tick " + (k + 1), x.where(1), where1[k]);
        }
        c.due("no standstill", x.standstills(), 0);
        Warehouselore y = Steps.withLots();
        Steps.onlyRoomIn(y, 1);
        Steps.put(y, 2, 0, 2);
        Steps.put(y, 1, 0, 2);
        int[] where2 = {NONE, NONE, NONE, NONE, NONE, 0, 1, 1};
        for (int k = 0; k < where2.length; k++) {
            y.pass(1);
            c.due("1 goes before 2: tick " + (k + 1), y.where(1), where0[k]);
            c.due("the aisle gets free behind it: tick " + (k + 1), y.where(2), k == 4 ? 0 : k == 5 ? 1 : k == 6 ? 1 : NONE);
            if (k == 6) break;
        }
        Warehouselore z = Steps.withLots();
        Steps.lay(z, 0, 0, 9);
        Steps.lay(z, 6, 0, 9);
        Steps.order(z, 0, 18);
        z.allocate();
        z.wave(0, 1);
        z.pass(2);
        c.due("picked in the aisle 0", z.stock(20, 0), 9);
        Steps.lay(z, 1, 1, 1);
        Steps.order(z, 1, 1);
        z.allocate();
        z.wave(1, 2);
        z.pass(1);
        c.due("straight into the aisle 1", z.where(0), 10);
        c.due("the aisle 0 is free for the one behind", z.where(1), 0);
    }

    private static void whereAndDoing() { // 25, 26
        Warehouselore x = Steps.withLots();
        Steps.lay(x, 17, 0, 1);
        Steps.order(x, 0, 1);
        x.allocate();
        x.wave(2, 1);
        c.due("at the front", x.where(2), NONE);
        c.due("its first task", x.doing(2), 0);
        x.pass(6);
        c.due("in the aisle 2 at the position 5", x.where(2), 25);
        x.pass(1);
        c.due("picked", x.doing(2), NONE);
        c.due("there still", x.where(2), 25);
        x.pass(1);
        c.due("without tasks it goes to the front", x.where(2), NONE);
        for (int r : new int[] {-1, 3, BIG, SMALL}) {
            c.index("where of " + r, () -> x.where(r));
            c.index("doing of " + r, () -> x.doing(r));
        }
    }

    private static void tasksAndTaskAt() { // 27, 28
        Warehouselore x = Steps.withLots();
        c.due("none", x.tasks(), 0);
        c.index("no task", () -> x.taskAt(0));
        x.receive(0, 0, 99);
        x.putAway(0, 99);
        c.due("a PUT, OPEN, of 99", x.taskAt(0), 99);
        x.give(0, 0);
        c.due("TAKEN", x.taskAt(0), 199);
        x.pass(3);
        c.due("DONE", x.taskAt(0), 299);
        x.face(1, 0, 1, 7);
        x.refill();
        c.due("a REFILL, OPEN", x.taskAt(1), 1007);
        Steps.order(x, 0, 8);
        x.allocate();
        x.wave(0, 1);
        c.due("a PICK, TAKEN", x.taskAt(2), 2108);
        x.send(0);
        c.due("a PICK, GONE", x.taskAt(2), 2308);
        c.due("all that were made", x.tasks(), 3);
        for (int t : new int[] {-1, 3, BIG, SMALL}) c.index("task " + t, () -> x.taskAt(t));
    }

    /** Robots 0 and 1 with a REFILL each, from the aisle of the one to that of the other. */
    private static Warehouselore crossing() {
        Warehouselore x = Steps.withLots();
        Steps.lay(x, 0, 0, 9);
        Steps.lay(x, 6, 1, 9);
        x.face(7, 0, 1, 2);
        x.face(1, 1, 1, 2);
        c.due("two refillings", x.refill(), 2); // the face 1 first: from 6; then 7: from 0
        x.give(0, 1);
        x.give(1, 0);
        return x;
    }

    private static void standstillOfTwo() { // 29
        Warehouselore x = crossing();
        x.pass(2);
        c.due("0 in the aisle 0", x.where(0), 0);
        c.due("1 in the aisle 1", x.where(1), 10);
        c.due("none yet", x.standstills(), 0);
        x.pass(1);
        c.due("one is undone", x.standstills(), 1);
        c.due("0 waits", x.where(0), 0);
        c.due("1 goes to the front", x.where(1), NONE);
        x.pass(1);
        c.due("0 goes into the aisle that is free", x.where(0), 10);
        c.due("1 comes behind it", x.where(1), 0);
        Steps.work(x);
        c.due("what was loaded is brought", x.stock(1, 1), 2);
        c.due("both", x.stock(7, 0), 2);
        c.due("one standstill in all", x.standstills(), 1);
    }

    private static void standstillOfThree() { // 29
        Warehouselore x = Steps.withLots();
        for (int k = 0; k < 3; k++) Steps.lay(x, 6 * k, k, 9);
        x.face(6 + 1, 0, 1, 2);
        x.face(12 + 1, 1, 1, 2);
        x.face(1, 2, 1, 2);
        c.due("three refillings", x.refill(), 3); // the faces 1, 7, 13: from 12, 0, 6
        x.give(2, 0);
        x.give(0, 1);
        x.give(1, 2);
        x.pass(2);
        for (int r = 0; r < 3; r++) c.due("loaded in its aisle", x.where(r), 10 * r);
        x.pass(1);
        c.due("one ring of three", x.standstills(), 1);
        c.due("0 waits", x.where(0), 0);
        c.due("1 waits", x.where(1), 10);
        c.due("2 goes to the front", x.where(2), NONE);
        x.pass(1);
        c.due("0 waits for 1, that was there when it looked", x.where(0), 0);
        c.due("1 goes into the aisle 2", x.where(1), 20);
        c.due("2 waits for the aisle 0", x.where(2), NONE);
        x.pass(1);
        c.due("0 goes into the aisle 1", x.where(0), 10);
        c.due("2 goes into the aisle 0", x.where(2), 0);
        Steps.work(x);
        c.due("all are DONE", x.stock(7, 0) + x.stock(13, 1) + x.stock(1, 2), 6);
        c.due("and one standstill", x.standstills(), 1);
    }

    private static void standstillKeepsLoads() { // 29: the one that was sent to the front keeps its load and its task
        Warehouselore x = crossing();
        x.pass(3);
        c.due("its task", x.doing(1), 0);
        c.due("TAKEN still", x.taskAt(0), 1102);
        c.due("the pieces are held still", x.free(6, 1), 7);
        c.due("the room as well", x.room(1), 98);
        x.pass(2);
        c.due("it goes to the face, not back to load", x.where(1), 1);
    }

    private static void noStandstill() { // 29: 2 waits for 0, and 0 waits for 1, that waits for nothing
        Warehouselore x = Steps.withLots();
        Steps.lay(x, 0, 0, 9);
        Steps.lay(x, 11, 2, 9);
        Steps.lay(x, 12, 1, 9);
        x.face(7, 0, 1, 2);
        x.face(1, 1, 1, 2);
        x.refill(); // the face 1 from 12; the face 7 from 0
        x.give(2, 0);
        x.give(0, 1);
        Steps.order(x, 2, 1);
        x.allocate();
        x.wave(1, 1);
        x.pass(3);
        c.due("0 waits", x.where(0), 0);
        c.due("2 waits", x.where(2), 20);
        c.due("1 is on its way", x.where(1), 12);
        x.pass(4);
        c.due("picked", x.stock(20, 2), 1);
        c.due("still there", x.where(1), 15);
        x.pass(2);
        c.due("0 went on", x.where(0), 10);
        c.due("2 behind it", x.where(2), 0);
        c.due("no ring", x.standstills(), 0);
    }
}
