/** Promises 1 to 10: places, items. */
public final class PlacesTest {
    private static final int NONE = Warehouselore.NONE, DOCK = Warehouselore.DOCK, QUARANTINE = Warehouselore.QUARANTINE;
    private static final int BIG = Integer.MAX_VALUE, SMALL = Integer.MIN_VALUE;
    private static final Checks c = new Checks("PlacesTest");

    public static void main(String[] args) {
        newObject();
        newItems();
        slot();
        slotThatIsUsed();
        face();
        faceThatIsUsed();
        item();
        itemThatIsUsed();
        bar();
        lot();
        stock();
        stockAnew();
        free();
        room();
        c.close();
    }

    private static void newObject() { // 1
        Warehouselore x = new Warehouselore();
        for (int s = 0; s < 18; s++) c.due("room of a new slot", x.room(s), 100);
        for (int r = 0; r < 3; r++) c.due("a new robot is at the front", x.where(r), NONE);
        for (int r = 0; r < 3; r++) c.due("a new robot does nothing", x.doing(r), NONE);
        for (int g = 0; g < 4; g++) for (int o = 0; o < 4; o++) c.due("barred at first", x.bar(g, o, false), false);
        c.due("tasks", x.tasks(), 0);
        c.due("standstills", x.standstills(), 0);
        c.due("bill", x.bill(), 0);
        c.due("refill", x.refill(), 0);
        c.due("allocate", x.allocate(), 0);
        x.item(0, 0, 1, 1, 0, 1);
        for (int s = 0; s < 18; s++) x.face(s, 0, 0, 0); // throws if the slot were of another zone
        for (int s = 0; s < 18; s++) x.face(s, NONE, 0, 0);
        x.slot(0, 0, 100);
        for (int i = 0; i < 6; i++) x.face(0, i, 0, 0); // throws if the item were of another zone
        c.due("the first tick", x.pass(1), 1);
        Warehouselore y = new Warehouselore();
        for (int s = 0; s < 18; s++) y.slot(s, 0, 100); // throws if it were a face
    }

    private static void newItems() { // 1
        for (int i = 0; i < 6; i++) {
            int other = (i + 1) % 6;
            Warehouselore x = new Warehouselore();
            x.item(other, 0, 1, 1, 1, 1);
            x.bar(0, 1, true);
            int lot = x.lot(i, 9999), barred = x.lot(other, 9999);
            Steps.lay(x, 3, lot, 3);
            Steps.lay(x, 9, barred, 1);
            c.due("size 1", x.room(3), 97);
            x.face(17, i, 1, 1);
            c.due("a case of 1", x.refill(), 1);
            c.due("a case of 1, its task", x.taskAt(0), 1001);
            int order = Steps.order(x, i, 2);
            x.line(order, other, 1);
            c.due("held", x.allocate(), 3);
            c.due("picks", x.wave(0, 1), 2);
            Steps.work(x);
            c.due("group 0 is barred from group 1", x.boxes(order), 2);
            int of = i < other ? 0 : 1;
            c.due("weight 1", x.boxAt(order, of), 2002);
            c.due("the other box", x.boxAt(order, 1 - of), 1001);
        }
    }

    private static void slot() { // 2
        Warehouselore x = Steps.withLots();
        x.slot(0, 2, 200);
        c.due("room that was set", x.room(0), 200);
        x.slot(17, 1, 1);
        c.due("room of 1", x.room(17), 1);
        x.slot(17, 0, 7);
        c.due("room set again", x.room(17), 7);
        x.receive(0, 0, 7);
        c.due("the zone counts: 17 has least room in zone 0", x.putAway(0, 7), 17);
        Warehouselore y = Steps.withLots();
        for (int s = 0; s < 18; s++) if (s != 5) y.slot(s, 1 + s % 2, 1);
        y.receive(0, 0, 1);
        c.due("other zones are left alone", y.putAway(0, 1), 5);
        for (int s : new int[] {-1, 18, BIG, SMALL}) {
            c.index("slot " + s, () -> x.slot(s, 0, 1));
            c.index("slot " + s + " goes first", () -> x.slot(s, 3, 0));
        }
        for (int bad : new int[] {-1, 3, BIG, SMALL}) c.argument("zone " + bad, () -> x.slot(1, bad, 50));
        for (int bad : new int[] {0, -1, 201, BIG, SMALL}) c.argument("room " + bad, () -> x.slot(1, 0, bad));
        c.due("nothing has changed", x.room(1), 100);
    }

    private static void slotThatIsUsed() { // 2
        Warehouselore x = Steps.withLots();
        Steps.lay(x, 0, 0, 1);
        c.state("something in it", () -> x.slot(0, 0, 50));
        c.argument("arguments go first", () -> x.slot(0, 0, 0));
        c.due("nothing has changed", x.room(0), 99);
        x.face(1, 0, 0, 0);
        c.state("a face", () -> x.slot(1, 0, 50));
        x.face(1, NONE, 0, 0);
        x.slot(1, 0, 50);
        x.receive(0, 1, 9);
        int slot = x.putAway(1, 9);
        c.due("the slot with least room", slot, 1);
        c.state("room is held", () -> x.slot(1, 0, 60));
        c.due("room held", x.room(1), 41);
        x.find(2, 0, 5);
        x.slot(2, 0, 33); // in truth only
        c.due("truth does not matter", x.room(2), 33);
        x.lose(0, 0, 1);
        x.count(0, 0);
        c.state("still in the book", () -> x.slot(0, 0, 50));
        x.count(0, 0);
        x.slot(0, 1, 50);
        c.due("empty again", x.room(0), 50);
    }

    private static void face() { // 3
        Warehouselore x = Steps.withLots();
        Steps.lay(x, 9, 0, 20);
        x.face(0, 0, 5, 5);
        c.due("refilled below the least", x.refill(), 1);
        c.due("up to the most", x.taskAt(0), 1005);
        Warehouselore y = Steps.withLots();
        Steps.lay(y, 9, 0, 20);
        y.face(0, 0, 0, 99);
        c.due("never below 0", y.refill(), 0);
        y.face(0, 0, 99, 99);
        y.face(0, 1, 1, 9);
        c.due("it is the face of another item now", y.refill(), 0);
        y.face(0, NONE, 0, 0);
        y.slot(0, 1, 10); // a face no more
        y.face(0, NONE, 0, 0); // none before either
        for (int s : new int[] {-1, 18, BIG, SMALL}) c.index("slot " + s, () -> y.face(s, 0, 0, -1));
        for (int i : new int[] {-2, 6, BIG, SMALL}) c.index("item " + i, () -> y.face(0, i, 0, -1));
        for (int bad : new int[] {-1, 100, BIG, SMALL}) {
            c.argument("least " + bad, () -> y.face(1, 0, bad, 99));
            c.argument("most " + bad, () -> y.face(1, 0, 0, bad));
        }
        c.argument("most below least", () -> y.face(1, 0, 6, 5));
        c.argument("least for NONE", () -> y.face(1, NONE, 1, 1));
        c.argument("most for NONE", () -> y.face(1, NONE, 0, 1));
        c.argument("least for NONE below", () -> y.face(1, NONE, -1, 0));
        c.state("another zone", () -> y.face(0, 0, 0, 1));
        c.argument("arguments go before the zone", () -> y.face(0, 0, 2, 1));
        y.slot(1, 0, 77); // no face, after all that threw
    }

    private static void faceThatIsUsed() { // 3
        Warehouselore x = Steps.withLots();
        Steps.lay(x, 0, 0, 1);
        c.state("something in it", () -> x.face(0, 0, 1, 2));
        c.state("something in it, for NONE", () -> x.face(0, NONE, 0, 0));
        c.argument("arguments go first", () -> x.face(0, 0, 3, 2));
        x.face(1, 0, 1, 1);
        c.due("a refilling", x.refill(), 1);
        c.state("room is held by a REFILL", () -> x.face(1, NONE, 0, 0));
        c.state("room is held by a REFILL, the same again", () -> x.face(1, 0, 1, 1));
        x.receive(0, 1, 1);
        c.due("a PUT", x.putAway(1, 1), 0);
        x.slot(2, 0, 3);
        x.receive(0, 1, 3);
        c.due("a PUT into the least room", x.putAway(1, 3), 2);
        c.state("room is held by a PUT", () -> x.face(2, 1, 0, 0));
        x.find(3, 0, 4);
        x.face(3, 0, 0, 9); // in truth only
    }

    private static void item() { // 4
        Warehouselore x = new Warehouselore();
        x.item(5, 2, 9, 20, 3, 12);
        int lot = x.lot(5, 9999);
        Steps.lay(x, 4, lot, 26);
        c.due("the size 9", x.room(4), 100 - 26 * 9);
        x.slot(11, 2, 200);
        x.face(11, 5, 13, 30);
        c.due("refill", x.refill(), 1);
        c.due("there is room for 22, so that one case of 12 goes", x.taskAt(0), 1012);
        Warehouselore y = new Warehouselore();
        y.item(0, 0, 1, 1, 0, 1);
        y.item(0, 1, 1, 1, 0, 1);
        y.item(0, 1, 2, 1, 0, 1);
        for (int i : new int[] {-1, 6, BIG, SMALL}) c.index("item " + i, () -> y.item(i, 9, 0, 0, 0, 0));
        for (int g : new int[] {-1, 4, BIG, SMALL}) c.index("group " + g, () -> y.item(1, 9, 0, 0, g, 0));
        for (int bad : new int[] {-1, 3, BIG, SMALL}) c.argument("zone " + bad, () -> y.item(1, bad, 1, 1, 0, 1));
        for (int bad : new int[] {0, 10, BIG, SMALL}) c.argument("size " + bad, () -> y.item(1, 0, bad, 1, 0, 1));
        for (int bad : new int[] {0, 21, BIG, SMALL}) c.argument("weight " + bad, () -> y.item(1, 0, 1, bad, 0, 1));
        for (int bad : new int[] {0, 13, BIG, SMALL}) c.argument("perCase " + bad, () -> y.item(1, 0, 1, 1, 0, bad));
        Steps.lay(y, 0, y.lot(1, 1), 10);
        c.due("nothing has changed by what threw", y.room(0), 90);
    }

    private static void itemThatIsUsed() { // 4
        Warehouselore x = new Warehouselore();
        x.notice(0, 1);
        int order = x.order(0, false, 0);
        x.line(order, 0, 1);
        x.item(0, 0, 3, 1, 0, 1); // a notice or a line of it does not matter
        x.lot(1, 0);
        c.state("a lot of it", () -> x.item(1, 0, 2, 1, 0, 1));
        c.argument("arguments go first", () -> x.item(1, 3, 2, 1, 0, 1));
        x.face(0, 2, 0, 0);
        c.state("a face of it", () -> x.item(2, 0, 2, 1, 0, 1));
        x.face(0, NONE, 0, 0);
        x.item(2, 0, 2, 1, 0, 1);
        Steps.lay(x, 0, 0, 5);
        c.due("the size has not changed", x.room(0), 95);
    }

    private static void bar() { // 5
        Warehouselore x = new Warehouselore();
        c.due("0 and 1 before", x.bar(0, 1, true), false);
        c.due("1 and 0, the same", x.bar(1, 0, true), true);
        c.due("not any more", x.bar(0, 1, false), true);
        c.due("the other way round neither", x.bar(1, 0, false), false);
        c.due("3 and 3", x.bar(3, 3, true), false);
        c.due("3 and 3 again", x.bar(3, 3, true), true);
        c.due("others have not changed", x.bar(2, 3, false), false);
        c.due("3 and 3 not any more", x.bar(3, 3, false), true);
        c.due("3 and 3 are not", x.bar(3, 3, false), false);
        for (int g : new int[] {-1, 4, BIG, SMALL}) {
            c.index("group " + g, () -> x.bar(g, 0, true));
            c.index("other " + g, () -> x.bar(0, g, true));
        }
        for (int g = 0; g < 4; g++) for (int o = 0; o < 4; o++) c.due("barred by what threw", x.bar(g, o, false), false);
        Warehouselore y = Steps.withLots();
        Steps.lay(y, 0, 0, 1);
        Steps.lay(y, 0, 1, 1);
        y.bar(0, 0, true);
        c.due("what stands already stays", y.stock(0, 0) + y.stock(0, 1), 2);
    }

    private static void lot() { // 6
        Warehouselore x = new Warehouselore();
        for (int i : new int[] {-1, 6, BIG, SMALL}) c.index("item " + i, () -> x.lot(i, -1));
        for (int bad : new int[] {-1, 10000, BIG, SMALL}) c.argument("end " + bad, () -> x.lot(0, bad));
        for (int l = 0; l < 12; l++) c.due("a lot's number", x.lot(l % 6, l % 2 == 0 ? 0 : 9999), l);
        c.state("a 13th", () -> x.lot(0, 0));
        c.argument("a 13th, with a wrong end", () -> x.lot(0, -1));
        c.index("a 13th, of no item", () -> x.lot(6, 0));
        c.index("it was not made", () -> x.stock(0, 12));
    }

    private static void stock() { // 7
        Warehouselore x = Steps.withLots();
        for (int p = 0; p < 28; p++) c.due("nothing at first", x.stock(p, 5), 0);
        x.receive(0, 0, 9);
        c.due("at the DOCK", x.stock(DOCK, 0), 9);
        c.due("of another lot", x.stock(DOCK, 1), 0);
        int slot = x.putAway(0, 9);
        x.give(0, 0);
        x.pass(2);
        c.due("still at the DOCK", x.stock(DOCK, 0), 9);
        x.pass(1);
        c.due("left the DOCK", x.stock(DOCK, 0), 0);
        c.due("in the slot", x.stock(slot, 0), 9);
        x.lose(slot, 0, 4);
        c.due("the book does not know", x.stock(slot, 0), 9);
        Steps.order(x, 0, 3);
        x.allocate();
        x.wave(0, 1);
        Steps.work(x);
        c.due("at the stand", x.stock(20, 0), 3);
        c.due("left in the slot", x.stock(slot, 0), 6);
        x.send(0);
        c.due("the stand is empty", x.stock(20, 0), 0);
        x.comeBack(0, 0, 2);
        c.due("in QUARANTINE", x.stock(QUARANTINE, 0), 2);
        x.judge(0, 1, true);
        c.due("judged good", x.stock(DOCK, 0), 1);
        for (int p : new int[] {-1, 28, BIG, SMALL}) c.index("place " + p, () -> x.stock(p, 0));
        for (int l : new int[] {-1, 6, BIG, SMALL}) c.index("lot " + l, () -> x.stock(0, l));
    }

    private static void stockAnew() { // 8
        Warehouselore x = Steps.withLots();
        Steps.put(x, 0, 0, 30);
        Steps.put(x, 0, 1, 10);
        Steps.work(x);
        x.face(6, 0, 4, 8);
        x.refill();
        x.give(1, 2);
        Steps.work(x);
        Steps.order(x, 0, 12);
        x.allocate();
        x.lose(0, 0, 20);
        x.wave(2, 1);
        Steps.work(x);
        x.find(4, 1, 3);
        x.count(4, 1);
        x.count(4, 1);
        x.send(0);
        x.comeBack(0, 0, 3);
        x.judge(0, 1, true);
        x.judge(0, 1, false);
        int sum = 0;
        for (int p = 0; p < 28; p++)
            for (int l = 0; l < 6; l++) {
                c.due("made anew in " + p + " of " + l, x.stockAnew(p, l), x.stock(p, l));
                sum += x.stockAnew(p, l);
            }
        c.due("40 came, 20 got lost, 3 were found, 10 sent, 3 came back, 1 of them bad", sum, 15);
        c.due("the stand, made anew", x.stockAnew(20, 0), 0);
        c.due("QUARANTINE, made anew", x.stockAnew(QUARANTINE, 0), 1);
        c.due("the DOCK, made anew", x.stockAnew(DOCK, 0), 1);
        c.due("found, made anew", x.stockAnew(4, 1), 3);
        for (int p : new int[] {-1, 28, BIG, SMALL}) c.index("place " + p, () -> x.stockAnew(p, 0));
        for (int l : new int[] {-1, 6, BIG, SMALL}) c.index("lot " + l, () -> x.stockAnew(0, l));
        Warehouselore many = Steps.withLots();
        for (int k = 0; k < 500; k++) many.receive(0, k % 2, 1 + k % 3);
        c.due("after many moves", many.stockAnew(DOCK, 0), many.stock(DOCK, 0));
        c.due("after many moves, of the other", many.stockAnew(DOCK, 1), 500);
    }

    private static void free() { // 9
        Warehouselore x = Steps.withLots();
        c.due("nothing is free at first", x.free(DOCK, 0), 0);
        x.receive(0, 0, 30);
        c.due("free at the DOCK", x.free(DOCK, 0), 30);
        x.putAway(0, 20);
        c.due("a PUT holds", x.free(DOCK, 0), 10);
        c.due("but they are there", x.stock(DOCK, 0), 30);
        x.give(0, 0);
        Steps.work(x);
        c.due("after it as before", x.free(DOCK, 0), 10);
        c.due("free in the slot", x.free(0, 0), 20);
        Steps.order(x, 0, 3);
        x.allocate();
        c.due("an order holds", x.free(0, 0), 17);
        x.face(1, 0, 1, 5);
        x.refill();
        c.due("a refilling holds", x.free(0, 0), 12);
        x.wave(0, 1);
        c.due("a PICK holds what was held", x.free(0, 0), 12);
        Steps.work(x);
        c.due("after the PICK", x.free(0, 0), 12);
        x.give(0, 1);
        Steps.work(x);
        c.due("after the REFILL", x.free(0, 0), 12);
        c.due("in the face", x.free(1, 0), 5);
        x.lose(0, 0, 12);
        c.due("the book does not know", x.free(0, 0), 12);
        for (int p : new int[] {-1, 19, 20, 27, 28, BIG, SMALL}) c.index("place " + p, () -> x.free(p, 0));
        for (int l : new int[] {-1, 6, BIG, SMALL}) c.index("lot " + l, () -> x.free(0, l));
    }

    private static void room() { // 10
        Warehouselore x = new Warehouselore();
        x.item(0, 0, 7, 1, 0, 1);
        x.lot(0, 9999);
        x.notice(0, 1);
        x.receive(0, 0, 10);
        c.due("a slot", x.putAway(0, 10), 0);
        c.due("room is held", x.room(0), 30);
        x.give(0, 0);
        x.pass(3);
        c.due("and then taken", x.room(0), 30);
        x.face(5, 0, 2, 3);
        x.refill();
        c.due("room is held in the face", x.room(5), 79);
        c.due("what goes is still there", x.room(0), 30);
        x.give(0, 1);
        Steps.work(x);
        c.due("the face", x.room(5), 79);
        c.due("where it came from", x.room(0), 51);
        x.slot(17, 0, 5);
        Steps.lay(x, 17, 0, 2);
        c.due("below 0", x.room(17), -9);
        for (int s : new int[] {-1, 18, BIG, SMALL}) c.index("slot " + s, () -> x.room(s));
    }
}
