/** Promises 30 to 32, and shorts: losses, counts. */
public final class CountsTest {
    private static final int NONE = Warehouselore.NONE;
    private static final int BIG = Integer.MAX_VALUE, SMALL = Integer.MIN_VALUE;
    private static final Checks c = new Checks("CountsTest");

    public static void main(String[] args) {
        lose();
        find();
        count();
        countAfterChanges();
        countWithNothingLeft();
        countWithHoldings();
        countWithMore();
        shortOfPick();
        shortOfPickWithNothing();
        shortOfRefill();
        shortOfOthers();
        noShort();
        c.close();
    }

    private static void lose() { // 30
        Warehouselore x = Steps.withLots();
        c.due("there are none", x.lose(0, 0, 1), 0);
        Steps.lay(x, 0, 0, 9);
        c.due("3 of 9", x.lose(0, 0, 3), 6);
        c.due("the book does not know", x.stock(0, 0), 9);
        c.due("nor is it in the room", x.room(0), 91);
        c.due("all", x.lose(0, 0, 99), 0);
        c.due("of another lot", x.lose(0, 1, 1), 0);
        for (int s : new int[] {-1, 18, BIG, SMALL}) c.index("slot " + s, () -> x.lose(s, 0, 0));
        for (int l : new int[] {-1, 6, BIG, SMALL}) c.index("lot " + l, () -> x.lose(0, l, 0));
        for (int bad : new int[] {0, -1, 100, BIG, SMALL}) c.argument("pieces " + bad, () -> x.lose(0, 0, bad));
    }

    private static void find() { // 32
        Warehouselore x = Steps.withLots();
        c.due("found", x.find(0, 0, 99), 99);
        c.due("more", x.find(0, 0, 1), 100);
        c.due("more than the room", x.find(0, 0, 99), 199);
        c.due("the book does not know", x.stock(0, 0), 0);
        c.due("nor is it in the room", x.room(0), 100);
        c.due("in another slot", x.find(1, 0, 2), 2);
        for (int s : new int[] {-1, 18, BIG, SMALL}) c.index("slot " + s, () -> x.find(s, 0, 0));
        for (int l : new int[] {-1, 6, BIG, SMALL}) c.index("lot " + l, () -> x.find(0, l, 0));
        for (int bad : new int[] {0, -1, 100, BIG, SMALL}) c.argument("pieces " + bad, () -> x.find(0, 0, bad));
        c.due("nothing has changed", x.count(0, 0), 199);
    }

    private static void count() { // 31
        Warehouselore x = Steps.withLots();
        c.due("none", x.count(0, 0), 0);
        c.due("6 for a count", x.bill(), 6);
        Steps.lay(x, 0, 0, 9);
        x.lose(0, 0, 2);
        c.due("7", x.count(0, 0), 7);
        c.due("a doubt only", x.stock(0, 0), 9);
        c.due("7 again", x.count(0, 0), 7);
        c.due("sure", x.stock(0, 0), 7);
        c.due("the room", x.room(0), 93);
        x.lose(0, 0, 2);
        x.count(0, 0);
        x.lose(0, 0, 1);
        c.due("another number", x.count(0, 0), 4);
        c.due("is another doubt", x.stock(0, 0), 7);
        x.find(0, 0, 1);
        x.count(0, 0);
        c.due("5, as before, but the doubt is in place of that one", x.stock(0, 0), 7);
        x.count(0, 0);
        c.due("twice", x.stock(0, 0), 5);
        x.lose(0, 0, 1);
        x.count(0, 0);
        x.find(0, 0, 1);
        x.count(0, 0); // as the book tells: no doubt any more
        x.lose(0, 0, 1);
        x.count(0, 0);
        c.due("the doubt was none any more", x.stock(0, 0), 5);
        x.count(0, 0);
        c.due("but now", x.stock(0, 0), 4);
        c.due("13 counts", x.bill(), 78);
        x.lose(0, 0, 1);
        x.count(0, 0);
        x.find(1, 0, 3);
        x.count(1, 0);
        x.find(0, 1, 3);
        x.count(0, 1);
        c.due("doubts are of a lot in a slot", x.stock(0, 0) + x.stock(1, 0) + x.stock(0, 1), 4);
        for (int s : new int[] {-1, 18, BIG, SMALL}) c.index("slot " + s, () -> x.count(s, 0));
        for (int l : new int[] {-1, 6, BIG, SMALL}) c.index("lot " + l, () -> x.count(0, l));
        c.due("16 counts", x.bill(), 96);
    }

    private static void countAfterChanges() { // 31
        Warehouselore x = Steps.withLots();
        Steps.lay(x, 0, 0, 9);
        x.lose(0, 0, 4);
        x.count(0, 0); // 5 of 9
        Steps.order(x, 0, 2);
        x.allocate();
        x.count(1, 0);
        x.wave(0, 1);
        x.pass(2); // 3 of 7
        x.find(0, 0, 2);
        c.due("5 again", x.count(0, 0), 5);
        c.due("but the book has changed since", x.stock(0, 0), 7);
        c.due("and again", x.count(0, 0), 5);
        c.due("now it is sure", x.stock(0, 0), 5);
        Warehouselore y = Steps.withLots();
        Steps.lay(y, 0, 0, 9);
        y.lose(0, 0, 4);
        y.count(0, 0);
        Steps.order(y, 0, 3);
        y.allocate();
        c.due("holding changes no number of the book", y.count(0, 0), 5);
        c.due("sure", y.stock(0, 0), 5);
        Warehouselore z = Steps.withLots();
        Steps.lay(z, 0, 0, 9);
        z.lose(0, 0, 4);
        z.count(0, 0); // 5 of 9
        z.receive(0, 0, 2);
        z.putAway(0, 2);
        z.give(0, 0);
        Steps.work(z); // 7 of 11
        Steps.order(z, 0, 2);
        z.allocate();
        z.wave(0, 1);
        Steps.work(z); // 5 of 9, as before
        c.due("5 as before", z.count(0, 0), 5);
        c.due("the number by the book has changed, and changed back", z.stock(0, 0), 9);
        z.count(0, 0);
        c.due("sure then", z.stock(0, 0), 5);
    }

    private static void countWithNothingLeft() { // 31
        Warehouselore x = Steps.withLots();
        Steps.lay(x, 0, 0, 9);
        Steps.order(x, 0, 2);
        x.allocate();
        x.wave(0, 1);
        Steps.work(x);
        x.lose(0, 0, 9);
        x.count(0, 0);
        c.due("0 for the first time after a PICK", x.stock(0, 0), 7);
        x.find(0, 0, 7);
        x.count(0, 0);
        x.lose(0, 0, 9);
        x.count(0, 0);
        c.due("0 for the first time after there was no doubt", x.stock(0, 0), 7);
        Steps.order(x, 0, 4);
        x.allocate();
        x.count(0, 0);
        c.due("0 for the second time", x.stock(0, 0), 0);
        c.due("nothing is held, and there is nothing to pick", x.wave(0, 2), 0);
        c.due("no task of it", x.tasks(), 1);
        Warehouselore y = Steps.withLots();
        Steps.lay(y, 0, 0, 9);
        y.lose(0, 0, 4);
        y.count(0, 0); // 5 of 9
        Steps.put(y, 0, 0, 2);
        Steps.work(y); // 7 of 11
        y.lose(0, 0, 2);
        y.count(0, 0);
        c.due("5 again, but what was put has changed the book", y.stock(0, 0), 11);
    }

    private static void countWithHoldings() { // 31
        Warehouselore x = Steps.withLots();
        Steps.lay(x, 0, 0, 40);
        Steps.order(x, 0, 5); // 0
        x.order(9, false, 0); // 1, which holds before 0
        x.line(1, 0, 7);
        x.allocate();
        x.line(0, 0, 6);
        x.allocate();
        x.face(17, 0, 4, 4);
        x.face(16, 0, 3, 3);
        x.refill();
        c.due("held: 5, 7, 6 for orders, 3 and 4 for refillings", x.free(0, 0), 15);
        x.wave(0, 2); // a PICK of 7
        x.lose(0, 0, 14);
        x.count(0, 0);
        x.count(0, 0);
        c.due("what is free is missing first", x.free(0, 0), 1);
        c.due("all keep", x.held(0, 0, 0) + x.held(1, 0, 0), 18);
        x.lose(0, 0, 1 + 4 + 1);
        x.count(0, 0);
        x.count(0, 0);
        c.due("20 are left", x.stock(0, 0), 20);
        c.due("the orders keep all", x.held(0, 0, 0) + x.held(1, 0, 0), 18);
        c.due("the first refilling keeps 2 of 3", x.taskAt(0), 1002);
        c.due("the second is GONE", x.taskAt(1), 1300);
        c.due("room of the first", x.room(16), 98);
        c.due("room of the second", x.room(17), 100);
        x.lose(0, 0, 20 - 12);
        x.count(0, 0);
        x.count(0, 0);
        c.due("the order 0 keeps all, first", x.held(0, 0, 0), 11);
        c.due("the order 1, though of higher rank, keeps 1", x.held(1, 0, 0), 1);
        c.due("its PICK wants so much less", x.taskAt(2), 2101);
        c.due("it lacks them", x.lacks(1, 0), 6);
        c.due("the refilling is GONE", x.taskAt(0), 1300);
        x.lose(0, 0, 12 - 8);
        x.count(0, 0);
        x.count(0, 0);
        c.due("the PICK is GONE", x.taskAt(2), 2300);
        c.due("and in no row", x.doing(0), NONE);
        c.due("what was held first is kept", x.lacks(0, 0), 0);
        c.due("the other keeps 3 of 6", x.lacks(0, 1), 3);
        c.due("none is free", x.free(0, 0), 0);
        c.due("holdings that are left", x.wave(1, 3), 2);
        c.due("the first of them", x.taskAt(3), 2105);
        c.due("the second of them", x.taskAt(4), 2103);
    }

    private static void countWithMore() { // 31
        Warehouselore x = Steps.withLots();
        Steps.lay(x, 0, 0, 5);
        Steps.order(x, 0, 7);
        x.allocate();
        x.find(0, 0, 4);
        x.count(0, 0);
        c.due("a doubt", x.stock(0, 0), 5);
        x.count(0, 0);
        c.due("as many more", x.stock(0, 0), 9);
        c.due("these are free", x.free(0, 0), 4);
        c.due("to be held", x.allocate(), 2);
    }

    private static void shortOfPick() {
        Warehouselore x = Steps.withLots();
        Steps.lay(x, 0, 0, 20);
        Steps.lay(x, 0, 1, 3);
        Steps.order(x, 0, 9);
        x.allocate();
        x.wave(0, 1);
        x.lose(0, 0, 14);
        x.count(0, 0);
        x.pass(2);
        c.due("the PICK has what there is", x.taskAt(0), 2206);
        c.due("it is at the stand", x.stock(20, 0), 6);
        c.due("the book has none any more", x.stock(0, 0), 0);
        c.due("of the other lot nothing has changed", x.stock(0, 1), 3);
        c.due("it lacks 3", x.lacks(0, 0), 3);
        c.due("5 counts, 4 of them to lay pieces, and 6 picked", x.bill(), 5 * 6 + 6);
        c.due("nothing is missing any more", x.count(0, 0), 0);
        c.due("allocated anew: none", x.allocate(), 0);
        Steps.lay(x, 9, 0, 9);
        c.due("allocated anew from elsewhere", x.allocate(), 3);
    }

    private static void shortOfPickWithNothing() {
        Warehouselore x = Steps.withLots();
        Steps.lay(x, 0, 0, 5);
        Steps.order(x, 0, 9);
        x.allocate();
        x.wave(0, 1);
        x.lose(0, 0, 9);
        x.pass(1);
        c.due("TAKEN", x.taskAt(0), 2105);
        x.pass(1);
        c.due("DONE with nothing", x.taskAt(0), 2200);
        c.due("none held", x.held(0, 0, 0), 0);
        c.due("it lacks all", x.lacks(0, 0), 9);
        c.due("the book has none", x.stock(0, 0), 0);
        c.due("nothing at the stand", x.stock(20, 0), 0);
        c.due("only the counts", x.bill(), 12);
    }

    private static void shortOfRefill() {
        Warehouselore x = Steps.withLots();
        Steps.lay(x, 0, 0, 20);
        x.face(2, 0, 9, 9);
        x.refill();
        x.give(0, 0);
        x.lose(0, 0, 16);
        x.pass(2);
        c.due("it goes on with 4", x.taskAt(0), 1104);
        c.due("the book has 4", x.stock(0, 0), 4);
        c.due("held by it", x.free(0, 0), 0);
        c.due("room is held for 4", x.room(2), 96);
        c.due("5 are missing, but fewer than the least come", x.refill(), 0);
        Steps.work(x);
        c.due("DONE with 4", x.taskAt(0), 1204);
        c.due("in the face", x.stock(2, 0), 4);
        c.due("in truth", x.count(2, 0), 4);
        Warehouselore y = Steps.withLots();
        Steps.lay(y, 0, 0, 20);
        y.face(2, 0, 9, 9);
        y.refill();
        y.give(0, 0);
        y.lose(0, 0, 20);
        y.pass(2);
        c.due("GONE with nothing", y.taskAt(0), 1300);
        c.due("in no row", y.doing(0), NONE);
        c.due("no room is held", y.room(2), 100);
        c.due("the book has none", y.stock(0, 0), 0);
        int bill = y.bill();
        y.pass(1);
        c.due("no REFILL was DONE", y.bill(), bill);
        c.due("to the front", y.where(0), NONE);
    }

    private static void shortOfOthers() {
        Warehouselore x = Steps.withLots();
        Steps.lay(x, 0, 0, 20);
        Steps.order(x, 0, 3); // 0
        Steps.order(x, 0, 8); // 1
        x.allocate();
        x.face(2, 0, 5, 5);
        x.refill(); // task 0
        x.wave(1, 1); // task 1: 3
        x.wave(2, 2); // task 2: 8
        x.give(1, 0);
        x.lose(0, 0, 14); // 6 are there
        x.pass(1);
        c.due("1 is there first", x.where(1), 0);
        x.pass(1);
        c.due("there are enough for the first", x.taskAt(1), 2203);
        c.due("no short yet", x.stock(0, 0), 17);
        x.pass(1); // the REFILL finds 3 of 5
        c.due("the REFILL has what there is", x.taskAt(0), 1103);
        c.due("the book as well", x.stock(0, 0), 3);
        c.due("nothing is left for the order, so that its PICK is GONE", x.taskAt(2), 2300);
        c.due("its robot has nothing", x.doing(2), NONE);
        c.due("it lacks all", x.lacks(1, 0), 8);
        Warehouselore y = Steps.withLots();
        Steps.lay(y, 1, 0, 20);
        y.face(8, 0, 5, 5);
        y.refill();
        y.give(0, 0);
        y.pass(3);
        c.due("loaded", y.where(0), 1);
        Steps.order(y, 0, 15);
        y.allocate();
        y.wave(1, 1);
        y.lose(1, 0, 7);
        y.pass(3);
        c.due("on its way to the face", y.where(0), 12);
        c.due("a PICK that finds 13 of 15, where the load is, too", y.taskAt(1), 2213);
        c.due("the REFILL is GONE, though it was loaded", y.taskAt(0), 1300);
        c.due("none is there", y.stock(1, 0), 0);
        y.pass(1);
        c.due("it goes to the front", y.where(0), NONE);
        c.due("nothing has come", y.stock(8, 0), 0);
    }

    private static void noShort() { // the truth is looked at for what is wanted, not for what the book has
        Warehouselore x = Steps.withLots();
        Steps.lay(x, 0, 0, 20);
        Steps.order(x, 0, 6);
        x.allocate();
        x.wave(0, 1);
        x.lose(0, 0, 14);
        x.pass(2);
        c.due("6 are there", x.taskAt(0), 2206);
        c.due("the book has 14, that are missing", x.stock(0, 0), 14);
        c.due("in truth none", x.count(0, 0), 0);
        Warehouselore y = Steps.withLots();
        Steps.put(y, 0, 0, 5);
        y.pass(1);
        y.pass(2);
        c.due("what was put is there in truth", y.count(0, 0), 5);
        c.due("no doubt", y.stock(0, 0), 5);
    }
}
