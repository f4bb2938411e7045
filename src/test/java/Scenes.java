/** Warehouses in which a call is refused, or has all its range; each is made with less than 160 calls. */
final class Scenes {
    private Scenes() { }

    static Warehouselore twelveLots() {
        Warehouselore x = new Warehouselore();
        for (int l = 0; l < 12; l++) x.lot(l % 6, 9999);
        return x;
    }

    static Warehouselore somethingInAllSlots() {
        Warehouselore x = Steps.withLots();
        for (int s = 0; s < 18; s++) Steps.lay(x, s, s % 6, 1);
        return x;
    }

    static Warehouselore allSlotsFaces() {
        Warehouselore x = new Warehouselore();
        for (int s = 0; s < 18; s++) x.face(s, s % 6, 1, 2);
        return x;
    }

    /** PUTs for all slots but the last one, which is a face to which a REFILL comes from the slot 16. */
    static Warehouselore roomHeldInAllSlots() {
        Warehouselore x = Steps.withLots();
        for (int s = 0; s < 18; s++) x.slot(s, 0, 90);
        x.face(17, 0, 9, 9);
        Steps.lay(x, 16, 0, 50);
        for (int s = 0; s < 17; s++) {
            x.receive(0, 1, 90 - (s == 16 ? 50 : 0));
            x.putAway(1, 90 - (s == 16 ? 50 : 0));
        }
        x.refill();
        return x;
    }

    static Warehouselore faceOfEachItem() {
        Warehouselore x = new Warehouselore();
        for (int i = 0; i < 6; i++) x.face(i, i, 0, 0);
        return x;
    }

    static Warehouselore otherZones() {
        Warehouselore x = new Warehouselore();
        for (int s = 0; s < 18; s++) x.slot(s, 1 + s % 2, 100);
        return x;
    }

    static Warehouselore eightNotices() {
        Warehouselore x = twelveLots();
        for (int n = 0; n < 8; n++) x.notice(n % 6, 1 + n);
        return x;
    }

    static Warehouselore eightClosed() {
        Warehouselore x = eightNotices();
        for (int n = 0; n < 8; n++) x.receive(n, n, 10 + n);
        for (int n = 0; n < 8; n++) x.close(n);
        return x;
    }

    static Warehouselore all99AtTheDock() {
        Warehouselore x = eightNotices();
        for (int l = 0; l < 12; l++) x.receive(0, l, 99);
        return x;
    }

    static Warehouselore dockButNoRoom() {
        Warehouselore x = all99AtTheDock();
        for (int s = 0; s < 18; s++) x.slot(s, 1, 200);
        return x;
    }

    static Warehouselore allHeldAtTheDock() {
        Warehouselore x = all99AtTheDock();
        for (int l = 0; l < 12; l++) x.putAway(l, 99);
        return x;
    }

    /** 60 PUTs of one piece each; 39 pieces are free at the DOCK. */
    static Warehouselore sixtyTasks() {
        Warehouselore x = Steps.withLots();
        x.receive(0, 0, 99);
        for (int k = 0; k < 60; k++) x.putAway(0, 1);
        return x;
    }

    /** 58 PUTs, and three holdings of the order 0 that have no task yet. */
    static Warehouselore threeHoldingsAndFiftyEight() {
        Warehouselore x = Steps.withLots();
        x.receive(0, 0, 99);
        for (int k = 0; k < 58; k++) x.putAway(0, 1);
        for (int s = 1; s < 4; s++) Steps.lay(x, s, 1, 1);
        for (int o = 0; o < 8; o++) x.order(9 - o, false, 0);
        x.line(0, 1, 2);
        x.line(7, 1, 1);
        x.allocate();
        x.line(0, 1, 1);
        x.send(7);
        x.allocate();
        return x;
    }

    /** Twelve PUTs, four for each robot: TAKEN, or DONE. */
    static Warehouselore twelveTasks(int state) {
        Warehouselore x = all99AtTheDock();
        for (int l = 0; l < 12; l++) x.putAway(l, 3);
        for (int t = 0; t < 12; t++) x.give(t % 3, t);
        if (state == 2) for (int k = 0; k < 4; k++) x.pass(50);
        return x;
    }

    /** A REFILL that found nothing, a PICK of an order that was sent, and one of a lot that was recalled. */
    static Warehouselore goneTasks() {
        Warehouselore x = Steps.withLots();
        Steps.lay(x, 0, 0, 9);
        x.face(17, 0, 1, 5);
        x.refill();
        x.give(0, 0);
        x.lose(0, 0, 9);
        x.pass(3);
        for (int l = 1; l < 3; l++) {
            Steps.lay(x, 0, l, 9);
            Steps.order(x, l, 4);
            x.allocate();
            x.wave(1, 255);
        }
        x.send(0);
        x.recall(2);
        return x;
    }

    static Warehouselore eightOrders() {
        Warehouselore x = twelveLots();
        for (int o = 0; o < 8; o++) x.order(o, o % 2 == 0, 10 * o);
        return x;
    }

    static Warehouselore threeLinesEach() {
        Warehouselore x = eightOrders();
        Steps.lay(x, 4, 0, 5);
        Steps.lay(x, 9, 1, 50);
        for (int o = 0; o < 8; o++) for (int l = 0; l < 3; l++) x.line(o, (o + l) % 6, 9);
        x.allocate();
        return x;
    }

    static Warehouselore eightSent() {
        Warehouselore x = eightOrders();
        for (int o = 0; o < 8; o++) x.send(o);
        return x;
    }

    static Warehouselore twelveRecalled() {
        Warehouselore x = twelveLots();
        for (int l = 0; l < 12; l++) x.recall(l);
        return x;
    }

    /** As much as can be at a stand: 99 pieces of three items, two in a box, barred from one another: 150 boxes. */
    static Warehouselore fullStand() {
        Warehouselore x = new Warehouselore();
        for (int i = 0; i < 3; i++) {
            x.item(i, 0, 9, 20, i, 1);
            x.bar(i, (i + 1) % 3, true);
        }
        x.order(9, true, 999);
        for (int i = 0; i < 3; i++) {
            Steps.lay(x, 5 * i, x.lot(i, 9999), 99);
            x.line(0, i, 99);
        }
        x.allocate();
        x.wave(2, 255);
        x.pass(50);
        return x;
    }

    static Warehouselore fullySent() {
        Warehouselore x = fullStand();
        x.send(0);
        return x;
    }

    static Warehouselore allCameBack() {
        Warehouselore x = fullySent();
        for (int l = 0; l < 3; l++) x.comeBack(0, l, 99);
        return x;
    }

    /** How many lots, notices, orders and tasks the busy one has. */
    static final int[] BUSY = {5, 2, 5, 10};

    /** One in which there is some of everything: tasks of each state, loads, a doubt, what is missing, a recall. */
    static Warehouselore busy() {
        Warehouselore x = new Warehouselore();
        x.item(0, 0, 2, 3, 0, 4);
        x.item(1, 0, 3, 20, 1, 1);
        x.item(2, 1, 9, 1, 2, 12);
        x.bar(0, 1, true);
        x.bar(2, 2, true);
        x.slot(17, 1, 200);
        x.slot(16, 2, 7);
        int[] items = {0, 0, 1, 2, 3}, ends = {500, 300, 9999, 60, 400};
        for (int l = 0; l < 5; l++) x.lot(items[l], ends[l]);
        x.notice(0, 50);
        x.notice(1, 7);
        for (int l = 0; l < 5; l++) x.receive(l % 2, l, 40);
        x.close(1);
        x.face(4, 0, 8, 12);
        Steps.lay(x, 0, 0, 30);
        Steps.lay(x, 6, 1, 9);
        Steps.lay(x, 12, 2, 11);
        Steps.lay(x, 14, 4, 25);
        Steps.order(x, 0, 6);
        x.order(9, true, 20);
        x.line(1, 1, 5);
        x.line(1, 3, 9);
        x.order(2, false, 0);
        x.line(2, 0, 12);
        x.order(3, true, 0);
        x.line(3, 2, 99);
        x.order(0, false, 999);
        x.allocate();
        x.wave(0, 1); // 0, and what the order 0 held
        x.pass(30);
        x.send(0);
        x.comeBack(0, 1, 4);
        x.judge(1, 1, true);
        busyTasks(x);
        return x;
    }

    private static void busyTasks(Warehouselore x) {
        x.refill();
        x.putAway(0, 20);
        x.putAway(4, 10);
        x.putAway(3, 9);
        x.putAway(2, 5);
        x.wave(1, 2);
        x.wave(2, 4);
        x.give(0, 1);
        x.give(2, 2);
        x.give(0, 3);
        x.lose(0, 0, 12);
        x.lose(14, 4, 3);
        x.find(9, 2, 8);
        x.count(14, 4);
        x.pass(4);
        x.recall(1);
        x.pass(2);
        x.count(9, 2);
    }
}
