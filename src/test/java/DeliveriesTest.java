/** Promises 11 to 16: deliveries, putting away. */
public final class DeliveriesTest {
    private static final int NONE = Warehouselore.NONE, DOCK = Warehouselore.DOCK;
    private static final int BIG = Integer.MAX_VALUE, SMALL = Integer.MIN_VALUE;
    private static final Checks c = new Checks("DeliveriesTest");

    public static void main(String[] args) {
        notice();
        receive();
        close();
        others();
        putAway();
        putAwayByWhatIsThere();
        putAwayBesideBarred();
        putAwayThrows();
        refill();
        refillFromWhere();
        refillHowMany();
        refillWithTasks();
        c.close();
    }

    private static void notice() { // 11
        Warehouselore x = new Warehouselore();
        for (int i : new int[] {-1, 6, BIG, SMALL}) c.index("item " + i, () -> x.notice(i, 0));
        for (int bad : new int[] {0, -1, 100, BIG, SMALL}) c.argument("pieces " + bad, () -> x.notice(0, bad));
        for (int n = 0; n < 8; n++) c.due("a notice's number", x.notice(n % 6, n == 0 ? 99 : 1), n);
        c.state("a 9th", () -> x.notice(0, 1));
        c.argument("a 9th of 0 pieces", () -> x.notice(0, 0));
        c.index("it was not given", () -> x.close(8));
        c.due("99 were told", x.close(0), -99);
    }

    private static void receive() { // 12
        Warehouselore x = Steps.withLots();
        c.due("5 of the lot 0", x.receive(0, 0, 5), 5);
        c.due("and 99", x.receive(0, 0, 99), 104);
        c.due("of the lot 1", x.receive(0, 1, 1), 1);
        c.due("2 for each", x.bill(), 210);
        x.recall(2);
        c.due("a recalled lot too", x.receive(0, 2, 1), 1);
        for (int n : new int[] {-1, 1, BIG, SMALL}) c.index("notice " + n, () -> x.receive(n, 0, 0));
        for (int l : new int[] {-1, 6, BIG, SMALL}) c.index("lot " + l, () -> x.receive(0, l, 0));
        for (int bad : new int[] {0, -1, 100, BIG, SMALL}) c.argument("pieces " + bad, () -> x.receive(0, 0, bad));
        x.close(0);
        c.state("closed", () -> x.receive(0, 0, 1));
        c.argument("closed, and 0 pieces", () -> x.receive(0, 0, 0));
        c.due("nothing has changed", x.stock(DOCK, 0), 104);
        c.due("nor the bill", x.bill(), 212);
    }

    private static void close() { // 13
        Warehouselore x = Steps.withLots();
        int secondOfItem0 = x.lot(0, 1);
        x.receive(0, 0, 30);
        x.receive(0, secondOfItem0, 25);
        x.receive(0, 1, 40);
        c.due("55 of 50 came, of two lots", x.close(0), 5);
        c.state("closed already", () -> x.close(0));
        int fewer = x.notice(1, 9);
        x.receive(fewer, 1, 2);
        x.receive(fewer, 0, 99);
        c.due("2 of 9 came", x.close(fewer), -7);
        int same = x.notice(2, 3);
        x.receive(same, 2, 3);
        c.due("3 of 3 came", x.close(same), 0);
        for (int n : new int[] {-1, 3, BIG, SMALL}) c.index("notice " + n, () -> x.close(n));
    }

    private static void others() { // 14
        Warehouselore x = Steps.withLots();
        int own = x.lot(0, 1);
        c.due("none yet", x.others(0), 0);
        x.receive(0, 0, 3);
        x.receive(0, own, 4);
        c.due("pieces of its item are no others", x.others(0), 0);
        x.receive(0, 1, 5);
        x.receive(0, 5, 6);
        c.due("others", x.others(0), 11);
        x.close(0);
        c.due("after it was closed", x.others(0), 11);
        c.due("of another notice", x.others(x.notice(1, 1)), 0);
        for (int n : new int[] {-1, 2, BIG, SMALL}) c.index("notice " + n, () -> x.others(n));
    }

    private static void putAway() { // 15
        Warehouselore x = Steps.withLots();
        x.receive(0, 0, 99);
        x.face(0, 0, 0, 0);
        x.slot(1, 1, 200);
        x.slot(2, 0, 9);
        x.slot(3, 0, 60);
        c.due("no face, of the zone, with room: the least room", x.putAway(0, 10), 3);
        c.due("a task", x.tasks(), 1);
        c.due("a PUT, OPEN, of 10", x.taskAt(0), 10);
        c.due("room is held", x.room(3), 50);
        c.due("pieces are held", x.free(DOCK, 0), 89);
        c.due("exactly all the room", x.putAway(0, 9), 2);
        c.due("less room now", x.putAway(0, 50), 3);
        c.due("no room left there", x.putAway(0, 1), 4);
        Warehouselore y = Steps.withLots();
        for (int s = 0; s < 18; s++) y.slot(s, 0, 10);
        y.receive(0, 0, 99);
        c.due("nowhere", y.putAway(0, 11), NONE);
        c.due("nothing is done", y.tasks() + 99 - y.free(DOCK, 0), 0);
        c.due("of several the lowest", y.putAway(0, 10), 0);
        Warehouselore z = new Warehouselore();
        z.item(0, 0, 9, 1, 0, 1);
        z.lot(0, 0);
        z.notice(0, 1);
        z.receive(0, 0, 99);
        z.slot(7, 0, 89);
        z.slot(8, 0, 90);
        c.due("sizes count", z.putAway(0, 10), 8);
        z.recall(0);
        c.due("a recalled lot, past its end", z.putAway(0, 9), 7);
    }

    private static void putAwayByWhatIsThere() { // 15
        Warehouselore x = Steps.withLots();
        int same = x.lot(0, 5);
        Steps.lay(x, 10, 0, 1);
        Steps.lay(x, 9, same, 2);
        Steps.lay(x, 8, 1, 70);
        x.receive(0, 0, 99);
        c.due("where the lot is", x.putAway(0, 1), 10);
        x.receive(0, same, 99);
        c.due("where that lot is, though the item has less room elsewhere", x.putAway(same, 1), 9);
        c.due("exactly all its room", x.putAway(0, 98), 10);
        x.receive(0, 0, 99);
        c.due("no room there: where the item is", x.putAway(0, 97), 9);
        c.due("no room there either: others, the least room", x.putAway(0, 2), 8);
        Warehouselore y = Steps.withLots();
        int second = y.lot(0, 7), third = y.lot(0, 7);
        Steps.lay(y, 10, 0, 1);
        Steps.lay(y, 11, second, 2);
        Steps.lay(y, 8, 1, 70);
        y.receive(0, third, 50);
        c.due("where the item is, with the least room", y.putAway(third, 10), 11);
        c.due("room that is held counts", y.room(11), 88);
        y.slot(4, 0, 10);
        c.due("still where the item is", y.putAway(third, 1), 11);
        Warehouselore z = Steps.withLots();
        z.receive(0, 0, 50);
        z.slot(5, 0, 20);
        z.slot(6, 0, 11);
        c.due("into 6", z.putAway(0, 10), 6);
        c.due("what comes by held room is not there by the book: the least room goes", z.putAway(0, 11), 5);
        z.find(9, 0, 40);
        c.due("nor is what is there in truth", z.putAway(0, 9), 5);
    }

    private static void putAwayBesideBarred() { // 15
        Warehouselore x = new Warehouselore();
        x.item(1, 0, 1, 1, 1, 1);
        x.item(2, 0, 1, 1, 1, 1);
        for (int i = 0; i < 3; i++) x.lot(i, 99);
        x.notice(0, 1);
        for (int l = 0; l < 3; l++) x.receive(0, l, 50);
        x.bar(1, 0, true);
        x.slot(7, 0, 10);
        x.slot(6, 0, 11);
        x.slot(5, 0, 12);
        x.slot(8, 0, 13);
        x.slot(9, 0, 14);
        c.due("the item 1", x.putAway(1, 1), 7);
        c.due("neither in 7, nor beside it in 6 or 8; 5 lies in another aisle", x.putAway(0, 1), 5);
        c.due("the item 2 is not barred from 1, though 6 lies beside; 5 is another aisle", x.putAway(2, 1), 7);
        c.due("two away", x.putAway(0, 12), 9);
        x.bar(0, 1, false);
        c.due("not barred any more: the least room", x.putAway(0, 8), 7);
        x.bar(0, 1, true);
        x.bar(1, 1, true);
        c.due("items 0 and 2 in 5, 7 and 9 are barred: not into nor beside these, though less room is there", x.putAway(1, 1), 0);
        Warehouselore y = Steps.withLots();
        y.bar(0, 0, true);
        y.receive(0, 0, 9);
        y.receive(0, 1, 9);
        c.due("barred from itself", y.putAway(0, 1), 0);
        c.due("is no bar for the same item", y.putAway(0, 1), 0);
        c.due("but for another one", y.putAway(1, 1), 2);
        c.due("and the other way round", y.putAway(0, 8 - 1), 0);
        Warehouselore z = new Warehouselore();
        z.item(1, 0, 1, 1, 1, 1);
        z.lot(0, 99);
        z.lot(1, 99);
        z.notice(0, 1);
        z.receive(0, 0, 50);
        z.bar(0, 1, true);
        Steps.lay(z, 6, 1, 1);
        Steps.lay(z, 17, 1, 1);
        z.slot(5, 0, 11);
        z.slot(11, 0, 13);
        z.slot(16, 0, 10);
        z.slot(7, 0, 9);
        c.due("16 and 7 lie beside; 5 is the end of another aisle", z.putAway(0, 9), 5);
        z.slot(4, 0, 6);
        z.slot(12, 0, 7);
        Steps.lay(z, 5, 1, 1);
        c.due("4 lies beside the last one of its aisle", z.putAway(0, 2), 12);
        Steps.lay(z, 11, 1, 1);
        c.due("12 is the first one of its aisle", z.putAway(0, 5), 12);
        y.find(5, 2, 1);
        Steps.lay(y, 12, 2, 1);
        y.slot(6, 0, 9);
        y.slot(13, 0, 5);
        y.receive(0, 3, 9);
        c.due("by the book in 12: not beside it, and not in truth only", y.putAway(3, 1), 6);
    }

    private static void putAwayThrows() { // 15
        Warehouselore x = Steps.withLots();
        x.receive(0, 0, 99);
        for (int l : new int[] {-1, 6, BIG, SMALL}) c.index("lot " + l, () -> x.putAway(l, 0));
        for (int bad : new int[] {0, -1, 100, BIG, SMALL}) c.argument("pieces " + bad, () -> x.putAway(0, bad));
        c.state("none at the DOCK", () -> x.putAway(1, 1));
        x.putAway(0, 90);
        c.state("not enough free", () -> x.putAway(0, 10));
        c.due("nothing has changed", x.free(DOCK, 0), 9);
        c.due("one task", x.tasks(), 1);
        Warehouselore y = Steps.withLots();
        y.receive(0, 0, 99);
        for (int k = 0; k < 60; k++) y.putAway(0, 1);
        c.due("60 tasks", y.tasks(), 60);
        c.state("a 61st", () -> y.putAway(0, 1));
        c.state("a 61st, for which there is no slot either", () -> y.putAway(0, 39));
        c.argument("a 61st, of 0 pieces", () -> y.putAway(0, 0));
        c.due("nothing has changed there", y.free(DOCK, 0), 39);
        y.give(0, 0);
        Steps.work(y);
        c.due("one is DONE", y.taskAt(0), 201);
        c.state("those that are DONE count", () -> y.putAway(0, 1));
    }

    private static void refill() { // 16
        Warehouselore x = Steps.withLots();
        c.due("no faces", x.refill(), 0);
        Steps.lay(x, 0, 0, 50);
        x.face(4, 0, 3, 10);
        x.face(2, 0, 1, 5);
        c.due("two faces", x.refill(), 2);
        c.due("2 goes first, up to its most", x.taskAt(0), 1005);
        c.due("then 4", x.taskAt(1), 1010);
        c.due("pieces are held", x.free(0, 0), 35);
        c.due("room is held", x.room(2), 95);
        c.due("what comes counts", x.refill(), 0);
        x.give(0, 0);
        Steps.work(x);
        c.due("5 are there", x.stock(2, 0), 5);
        c.due("not below the least", x.refill(), 0);
        int order = Steps.order(x, 0, 4);
        x.allocate();
        c.due("the face goes first", x.held(order, 2, 0), 4);
        c.due("held pieces are there still", x.refill(), 0);
        x.wave(0, 1);
        Steps.work(x);
        c.due("1 is left, and the least is 1", x.refill(), 0);
        Steps.order(x, 0, 1);
        x.allocate();
        x.wave(0, 2);
        Steps.work(x);
        c.due("none is left", x.refill(), 1);
        c.due("again", x.taskAt(x.tasks() - 1), 1005);
        Steps.lay(x, 8, 1, 9);
        x.face(9, 1, 5, 9);
        Steps.lay(x, 9, 2, 50);
        c.due("pieces of another item do not count", x.refill(), 1);
        c.due("9 of them", x.taskAt(x.tasks() - 1), 1009);
        c.due("but take room", x.room(9), 41);
    }

    private static void refillFromWhere() { // 16
        Warehouselore x = new Warehouselore();
        int late = x.lot(0, 300), early = x.lot(0, 200), alike = x.lot(0, 200), recalled = x.lot(0, 1), of1 = x.lot(1, 0);
        x.face(17, 0, 9, 9);
        x.face(11, 0, 0, 0);
        Steps.lay(x, 0, late, 20);
        Steps.lay(x, 11, early, 20); // in a face
        Steps.lay(x, 1, recalled, 20);
        Steps.lay(x, 2, of1, 20);
        Steps.lay(x, 6, alike, 2);
        Steps.lay(x, 5, early, 3);
        Steps.lay(x, 7, early, 9);
        x.recall(recalled);
        x.bar(0, 0, true);
        Steps.lay(x, 16, of1, 1); // barred, and beside: it does not matter
        c.due("one task for the face", x.refill(), 1);
        c.due("of the least end, the lowest lot, the lowest slot, only what is there", x.taskAt(0), 1003);
        c.due("held", x.free(5, early), 0);
        c.due("the next one", x.refill(), 1);
        c.due("from 7, what is missing still", x.taskAt(1), 1006);
        c.due("held in 7", x.free(7, early), 3);
        x.give(0, 0);
        x.give(0, 1);
        Steps.work(x);
        Steps.order(x, 0, 99);
        x.allocate();
        c.due("nothing is free", x.refill(), 0);
        x.send(0);
        Warehouselore y = new Warehouselore();
        int old = y.lot(0, 0), second = y.lot(0, 0);
        y.face(0, 0, 4, 4);
        y.pass(50);
        Steps.lay(y, 3, second, 9);
        Steps.lay(y, 9, old, 9);
        c.due("a refilling", y.refill(), 1);
        c.due("lots past their end too, the lower lot, though its slot is higher", y.free(9, old), 5);
    }

    private static void refillHowMany() { // 16
        Warehouselore x = new Warehouselore();
        x.item(0, 0, 3, 1, 0, 4);
        int lot = x.lot(0, 300), later = x.lot(0, 301);
        x.face(17, 0, 9, 11);
        Steps.lay(x, 0, lot, 3);
        Steps.lay(x, 1, lot, 50);
        c.due("the first one has no whole case, and no other one goes", x.refill(), 0);
        c.due("no task", x.tasks(), 0);
        Steps.lay(x, 0, lot, 20 - 3);
        Steps.lay(x, 1, later, 9);
        c.due("now", x.refill(), 1);
        c.due("8 of 11 in whole cases", x.taskAt(0), 1008);
        c.due("room for 8", x.room(17), 76);
        c.due("8 are fewer than 9, but there is no case for 3", x.refill(), 0);
        Warehouselore y = new Warehouselore();
        y.item(0, 0, 3, 1, 0, 4);
        y.lot(0, 300);
        y.slot(17, 0, 23);
        y.face(17, 0, 1, 99);
        Steps.lay(y, 3, 0, 30);
        c.due("by the room", y.refill(), 1);
        c.due("7 fit, 4 go", y.taskAt(0), 1004);
        y.slot(16, 0, 11);
        y.face(16, 0, 1, 99);
        c.due("no case fits", y.refill(), 0);
        Warehouselore z = Steps.withLots();
        z.slot(17, 0, 5);
        z.face(17, 0, 1, 9);
        Steps.lay(z, 17, 1, 9);
        Steps.lay(z, 0, 0, 9);
        c.due("room below 0", z.room(17), -4);
        c.due("nothing fits there", z.refill(), 0);
    }

    private static void refillWithTasks() { // 16
        Warehouselore x = Steps.withLots();
        Steps.lay(x, 0, 0, 20);
        x.receive(0, 1, 99);
        for (int k = 0; k < 59; k++) x.putAway(1, 1);
        x.face(16, 0, 1, 1);
        x.face(17, 0, 1, 1);
        c.due("one more goes", x.refill(), 1);
        c.due("60", x.tasks(), 60);
        c.due("none, and nothing is thrown", x.refill(), 0);
        c.due("nothing is held by it", x.free(0, 0), 19);
        Warehouselore y = Steps.withLots();
        Steps.lay(y, 0, 0, 20);
        y.face(17, 0, 5, 5);
        y.refill();
        y.lose(0, 0, 20);
        y.give(0, 0);
        y.pass(2);
        c.due("GONE with nothing", y.taskAt(0), 1300);
        c.due("room is not held", y.room(17), 100);
        Steps.lay(y, 0, 0, 20);
        c.due("what is GONE does not come", y.refill(), 1);
    }
}
