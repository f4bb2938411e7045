/** The sentences of 'Terms' that name a limit: each at it, and one to either side of it. */
public final class LimitsTest {
    private static final int NONE = Warehouselore.NONE, DOCK = Warehouselore.DOCK, QUARANTINE = Warehouselore.QUARANTINE;
    private static final Checks c = new Checks("LimitsTest");

    public static void main(String[] args) {
        slotsLieInAisles();
        besideBarredByTheBook();
        besideBarredByHeldRoom();
        roomEnough();
        zones();
        leastRoomGoesFirst();
        afterPuts();
        emptyAgain();
        closedWithMoreAndFewer();
        freeAtTheDock();
        sixtiethTask();
        refillBelowTheLeast();
        refillFromTheNextLot();
        refillWholeCases();
        refillByRoom();
        refillMakesNoneAbove60();
        goodUntil();
        goodAfterAllEnds();
        wholeOrNothing();
        wholeFromEachSlot();
        endsInFaces();
        asManyAsTheLineLacks();
        waveOfEachOrder();
        waveBySlotsBeforeLots();
        waveUpTo60();
        emptyRow();
        fiftyTicksAtOnce();
        ringsOfTwo();
        ringsOfThree();
        ringAndOneThatWaits();
        shortByOne();
        shortOfRefillByOne();
        moreThanTheBook();
        shortForOthers();
        refillingsLast();
        countsBesideTheBook();
        doubtsApart();
        boxUpTo30();
        boxUpTo50();
        fullStand();
        barsInBoxes();
        nothingToSend();
        backAndForth();
        recalledFromAll();
        theLastOfAll();
        c.close();
    }

    // ---- places

    private static void slotsLieInAisles() { // the slot s in the aisle s / 6 at the position s modulo 6
        for (int s = 0; s < 18; s++) {
            Warehouselore x = Steps.withLots();
            Steps.lay(x, s, 0, 4);
            Steps.order(x, 0, 4);
            x.allocate();
            x.wave(1, 1);
            for (int p = 0; p <= s % 6; p++) {
                x.pass(1);
                c.due("one position a tick, to the slot " + s, x.where(1), 10 * (s / 6) + p);
            }
            c.due("not picked on the way to " + s, x.stock(20, 0), 0);
            x.pass(1);
            c.due("picked from " + s, x.stock(20, 0), 4);
            c.due("where the slot " + s + " is", x.where(1), 10 * (s / 6) + s % 6);
        }
    }

    private static boolean isNextTo(int s, int t) { return s / 6 == t / 6 && s - t <= 1 && t - s <= 1; }

    /** Two items of groups that are barred from one another, of the zones 0 and 1; all slots are of the zone 2. */
    private static Warehouselore barred() {
        Warehouselore x = new Warehouselore();
        x.item(1, 1, 1, 1, 3, 1);
        x.bar(0, 3, true);
        for (int s = 0; s < 18; s++) x.slot(s, 2, 100);
        x.lot(0, 0);
        x.lot(1, 0);
        x.notice(0, 1);
        x.receive(0, 0, 5);
        x.receive(0, 1, 5);
        return x;
    }

    private static void besideBarredByTheBook() {
        for (int s = 0; s < 18; s++) for (int t = 0; t < 18; t++) {
            Warehouselore x = barred();
            x.slot(s, 0, 100);
            Steps.lay(x, t, 1, 1);
            c.due("into " + s + " with a barred piece in " + t, x.putAway(0, 1), isNextTo(s, t) ? NONE : s);
            if (!isNextTo(s, t)) continue;
            x.lose(t, 1, 1);
            c.due("missing, but in the book still", x.putAway(0, 1), NONE);
            x.count(t, 1);
            c.due("a doubt, but in the book still", x.putAway(0, 1), NONE);
            x.count(t, 1);
            c.due("not in the book any more", x.putAway(0, 1), s);
        }
    }

    private static void besideBarredByHeldRoom() {
        for (int s = 0; s < 18; s++) for (int t = 0; t < 18; t++) if (s != t) {
            Warehouselore x = barred();
            x.slot(s, 0, 100);
            x.slot(t, 1, 100);
            c.due("held room in " + t, x.putAway(1, 1), t);
            c.due("into " + s + " with held room in " + t, x.putAway(0, 1), isNextTo(s, t) ? NONE : s);
            c.due("of the same item", x.putAway(1, 1), t);
        }
    }

    private static void roomEnough() { // with free room enough for all these pieces
        for (int size = 1; size <= 9; size++) for (int pieces : new int[] {1, 2, 7, 22}) {
            Warehouselore x = new Warehouselore();
            x.item(0, 1, size, 1, 0, 1);
            x.lot(0, 0);
            x.notice(0, 1);
            x.receive(0, 0, 99);
            if (size * pieces > 1) x.slot(3, 1, size * pieces - 1);
            c.due("one too little for " + pieces + " of " + size, x.putAway(0, pieces), NONE);
            c.due("no task", x.tasks(), 0);
            c.due("none held", x.free(DOCK, 0), 99);
            x.slot(8, 1, size * pieces);
            c.due("just enough", x.putAway(0, pieces), 8);
            c.due("full", x.room(8), 0);
            c.due("not one more", x.putAway(0, 1), pieces == 1 ? NONE : 3);
        }
        Warehouselore y = Steps.withLots();
        for (int s = 0; s < 18; s++) y.slot(s, 0, 1);
        Steps.lay(y, 9, 0, 2);
        y.receive(0, 0, 99);
        c.due("not where the lot is: the room is below 0 there", y.putAway(0, 1), 0);
        y.slot(17, 0, 99);
        c.due("99 at once", y.putAway(0, 98), 17);
        y.receive(0, 0, 99);
        c.due("nowhere is room for 99", y.putAway(0, 99), NONE);
    }

    private static void zones() {
        for (int of = 0; of < 3; of++) {
            Warehouselore x = new Warehouselore();
            for (int i = 0; i < 3; i++) x.item(i, i, 1, 1, 0, 1);
            for (int s = 0; s < 18; s++) x.slot(s, (s + of) % 3, 100);
            x.notice(0, 1);
            for (int i = 0; i < 3; i++) {
                x.receive(0, x.lot(i, 0), 9);
                c.due("the lowest slot of the zone " + i, x.putAway(i, 9), (3 + i - of) % 3);
            }
        }
    }

    private static void leastRoomGoesFirst() {
        for (int s = 0; s < 17; s++) {
            Warehouselore x = Steps.withLots();
            x.receive(0, 0, 9);
            x.slot(s, 0, 50);
            x.slot(17, 0, 51);
            c.due("the one with the least free room", x.putAway(0, 1), s);
            Warehouselore y = Steps.withLots();
            y.receive(0, 0, 9);
            y.slot(s, 0, 51);
            y.slot(17, 0, 50);
            c.due("though its number is greater", y.putAway(0, 1), 17);
            Warehouselore z = Steps.withLots();
            z.receive(0, 0, 9);
            z.slot(s, 0, 50);
            z.slot(17, 0, 50);
            c.due("of several the lowest", z.putAway(0, 1), s);
            z.slot(17, 0, 49);
            Steps.lay(z, s, 1, 1);
            Steps.lay(z, 17, 0, 1);
            c.due("one piece of the lot is enough", z.putAway(0, 1), 17);
            Warehouselore w = Steps.withLots();
            int second = w.lot(0, 9);
            w.receive(0, second, 9);
            w.slot(s, 0, 50);
            Steps.lay(w, s, 1, 30);
            Steps.lay(w, 17, 0, 1);
            c.due("one piece of the item is enough, of another lot", w.putAway(second, 1), 17);
        }
    }

    private static void afterPuts() { // what a PUT has brought is there by the book, and not held room any more
        Warehouselore x = Steps.withLots();
        int second = x.lot(0, 9);
        x.slot(9, 0, 20);
        x.slot(12, 0, 18);
        c.due("the least room", Steps.put(x, 0, 0, 19), 9);
        x.receive(0, second, 3);
        c.due("on its way: the item is not there yet, nor room for 2", x.putAway(second, 2), 12);
        Steps.work(x);
        c.due("the item is there", x.putAway(second, 1), 9);
        x.slot(13, 0, 5);
        c.due("full", x.room(9), 0);
        x.receive(0, 0, 1);
        c.due("no room where the lot is: the least one", x.putAway(0, 1), 13);
    }

    private static void emptyAgain() { // what left a slot is not in it by the book
        Warehouselore x = new Warehouselore();
        x.item(1, 0, 1, 1, 1, 1);
        x.bar(0, 1, true);
        x.lot(0, 9999);
        x.lot(1, 9999);
        x.notice(0, 1);
        for (int s = 0; s < 18; s++) if (s != 7 && s != 8) x.slot(s, 1, 100);
        c.due("the lowest", Steps.put(x, 0, 0, 5), 7);
        Steps.work(x);
        x.receive(0, 1, 5);
        Steps.order(x, 0, 5);
        x.allocate();
        x.wave(1, 1);
        x.pass(2);
        c.state("there still", () -> x.slot(7, 0, 60));
        c.state("there still, for a face", () -> x.face(7, 0, 0, 0));
        c.due("there still, for a barred one beside", x.putAway(1, 5), NONE);
        x.pass(1);
        c.due("all are picked", x.stock(20, 0), 5);
        x.slot(7, 0, 60);
        x.face(7, 0, 0, 0);
        x.face(7, NONE, 0, 0);
        c.due("a barred one can come", x.putAway(1, 5), 7);
        Warehouselore y = Steps.withLots();
        Steps.lay(y, 3, 0, 5);
        y.face(4, 0, 1, 5);
        y.refill();
        c.state("what goes is there still", () -> y.slot(3, 0, 70));
        y.give(0, 0);
        Steps.work(y);
        y.slot(3, 0, 70);
        c.due("all went to the face", y.room(4), 95);
        c.state("that is in use", () -> y.face(4, 0, 1, 6));
    }

    // ---- deliveries

    private static void closedWithMoreAndFewer() {
        for (int told : new int[] {1, 50, 99}) for (int came : new int[] {0, told - 1, told, told + 1}) {
            Warehouselore x = Steps.withLots();
            int notice = x.notice(2, told);
            if (came > 0) x.receive(notice, 2, Math.min(99, came));
            if (came > 99) x.receive(notice, 2, came - 99);
            x.receive(notice, 3, 99);
            c.due("others do not make up for it", x.close(notice), came - told);
            c.due("other ones", x.others(notice), 99);
        }
        Warehouselore y = Steps.withLots();
        for (int k = 0; k < 40; k++) y.receive(0, 0, 99);
        c.due("the DOCK has no limit", y.stock(DOCK, 0), 3960);
        c.due("nor has what came", y.close(0), 3910);
        c.due("2 for each of them", y.bill(), 7920);
    }

    private static void freeAtTheDock() { // if fewer are free at the DOCK
        Warehouselore x = Steps.withLots();
        c.state("none there", () -> x.putAway(0, 1));
        x.receive(0, 0, 20);
        c.state("one too few", () -> x.putAway(0, 21));
        c.due("some", x.putAway(0, 12), 0);
        c.state("one too few free", () -> x.putAway(0, 9));
        c.due("just all", x.putAway(0, 8), 0);
        c.due("none is free", x.free(DOCK, 0), 0);
        c.due("all are there", x.stock(DOCK, 0), 20);
        c.state("none free", () -> x.putAway(0, 1));
        x.give(0, 0);
        x.give(0, 1);
        Steps.work(x);
        c.state("none there any more", () -> x.putAway(0, 1));
        c.due("all are put away", x.stock(0, 0), 20);
    }

    private static void sixtiethTask() {
        Warehouselore x = Scenes.sixtyTasks();
        c.due("the last one is there", x.taskAt(59), 1);
        c.index("the 61st is not", () -> x.taskAt(60));
        c.state("a PUT", () -> x.putAway(0, 1));
        c.due("room for 60", x.room(0), 40);
        c.due("the last one can be given", x.give(2, 59), 1);
        c.due("it is the first of the row", x.doing(2), 59);
    }

    // ---- refilling

    private static Warehouselore face(int there, int least, int most, int perCase) {
        Warehouselore x = new Warehouselore();
        x.item(0, 0, 1, 1, 0, perCase);
        x.lot(0, 9999);
        x.face(7, 0, least, most);
        if (there > 0) Steps.lay(x, 7, 0, there);
        return x;
    }

    private static void refillBelowTheLeast() { // if the pieces are fewer than its least
        for (int least : new int[] {1, 2, 50, 99}) for (int there : new int[] {least - 1, least}) {
            Warehouselore x = face(there, least, 99, 1);
            Steps.lay(x, 0, 0, 99);
            c.due(there + " are there, the least is " + least, x.refill(), there < least ? 1 : 0);
            if (there < least) c.due("up to the most", x.taskAt(0), 1000 + 99 - there);
            c.due("not again", x.refill(), 0);
        }
        Warehouselore y = face(0, 0, 99, 1);
        Steps.lay(y, 0, 0, 99);
        c.due("none is not fewer than 0", y.refill(), 0);
        Warehouselore z = face(3, 9, 9, 1);
        Steps.lay(z, 0, 0, 5);
        Steps.lay(z, 1, 0, 50);
        c.due("3 are there", z.refill(), 1);
        c.due("5 come", z.taskAt(0), 1005);
        c.due("8 are fewer than 9", z.refill(), 1);
        c.due("1 is missing", z.taskAt(1), 1001);
        c.due("9 are not", z.refill(), 0);
    }

    private static void refillFromTheNextLot() { // the first one with free pieces
        for (int s = 0; s < 17; s++) {
            Warehouselore x = new Warehouselore();
            int recalled = x.lot(0, 0), none = x.lot(0, 1), held = x.lot(0, 2), inFace = x.lot(0, 3), other = x.lot(1, 4), due = x.lot(0, 5);
            x.face(17, 0, 9, 9);
            x.recall(recalled);
            Steps.lay(x, s, recalled, 9);
            Steps.lay(x, s, held, 9);
            Steps.lay(x, 17, inFace, 3);
            Steps.lay(x, s, other, 9);
            Steps.order(x, 0, 12);
            c.due("held for an order", x.allocate(), 12);
            c.due("no lot has any free", x.refill(), 0);
            Steps.lay(x, s, due, 4);
            c.due("one has", x.refill(), 1);
            c.due("its pieces", x.taskAt(0), 1004);
            c.due("held", x.free(s, due) + x.free(s, held) + x.stock(s, none), 0);
            x.send(0);
            c.due("free again", x.refill(), 1);
            c.due("9 are wanted, 3 are there, 4 come", x.taskAt(1), 1002);
            c.due("of the earlier lot", x.free(s, held), 7);
        }
    }

    private static void refillWholeCases() { // in whole cases; if that is at least one case
        for (int perCase : new int[] {1, 2, 5, 12}) for (int off = -1; off <= 1; off++) {
            Warehouselore x = face(0, 1, 99, perCase);
            if (perCase + off > 0) Steps.lay(x, 0, 0, perCase + off);
            int cases = (perCase + off) / perCase;
            c.due("free pieces: " + (perCase + off) + " in cases of " + perCase, x.refill(), cases > 0 ? 1 : 0);
            if (cases > 0) c.due("cases", x.taskAt(0), 1000 + cases * perCase);
            c.due("the others are free", x.free(0, 0), perCase + off - cases * perCase);
            Warehouselore y = face(0, 1, Math.max(1, perCase + off), perCase);
            Steps.lay(y, 0, 0, 99);
            int missing = Math.max(1, perCase + off) / perCase;
            c.due("missing: " + (perCase + off), y.refill(), missing > 0 ? 1 : 0);
            if (missing > 0) c.due("cases of what is missing", y.taskAt(0), 1000 + missing * perCase);
        }
    }

    private static void refillByRoom() { // fit into its free room
        for (int room : new int[] {1, 26, 27, 28, 53, 54, 200}) {
            Warehouselore x = new Warehouselore();
            x.item(0, 0, 9, 1, 0, 3);
            x.lot(0, 9999);
            x.slot(7, 0, room);
            x.face(7, 0, 1, 99);
            Steps.lay(x, 0, 0, 99);
            int cases = room / 27;
            c.due("room of " + room, x.refill(), cases > 0 ? 1 : 0);
            if (cases > 0) c.due("as many cases as fit", x.taskAt(0), 1000 + 3 * cases);
            c.due("room that is left", x.room(7), room - 27 * cases);
        }
        Warehouselore y = face(0, 1, 9, 1);
        Steps.lay(y, 7, 0, 99);
        c.due("not fewer than the least", y.refill(), 0);
        y.lose(7, 0, 99);
        y.count(7, 0);
        y.count(7, 0);
        c.due("nothing anywhere", y.refill(), 0);
        y.find(0, 0, 5);
        c.due("in truth only", y.refill(), 0);
    }

    private static void refillMakesNoneAbove60() {
        for (int before = 57; before <= 60; before++) {
            Warehouselore x = Steps.withLots();
            x.receive(0, 1, 99);
            for (int k = 0; k < before; k++) x.putAway(1, 1);
            Steps.lay(x, 17, 0, 50);
            for (int f = 14; f < 17; f++) x.face(f, 0, 1, 2);
            int made = Math.min(3, 60 - before);
            c.due("with " + before + " tasks", x.refill(), made);
            c.due("60 at most", x.tasks(), before + made);
            c.due("nothing is held for those that were not made", x.free(17, 0), 50 - 2 * made);
            for (int f = 14; f < 17; f++) c.due("room of the face " + f, x.room(f), f - 14 < made ? 98 : 100);
        }
    }

    // ---- orders

    private static void goodUntil() { // whose end is not less than now and the ticks that the order wants
        for (int ticks : new int[] {0, 1, 500, 999}) for (int off = -1; off <= 1; off++) {
            if (7 + ticks + off < 7) continue;
            Warehouselore x = new Warehouselore();
            x.lot(0, 7 + ticks + off);
            Steps.lay(x, 0, 0, 9);
            x.order(0, ticks % 2 == 1, ticks);
            x.line(0, 0, 9);
            x.pass(7);
            c.due("an end of " + (7 + ticks + off) + " in the tick 7 for " + ticks, x.allocate(), off < 0 ? 0 : 9);
            x.pass(2);
            c.due("what is held stays held", x.held(0, 0, 0), off < 0 ? 0 : 9);
        }
        Warehouselore y = new Warehouselore();
        y.lot(0, 0);
        Steps.lay(y, 0, 0, 9);
        Steps.order(y, 0, 4);
        c.due("the end 0 in the tick 0", y.allocate(), 4);
        y.line(0, 0, 4);
        y.pass(1);
        c.due("in the tick 1", y.allocate(), 0);
    }

    private static void goodAfterAllEnds() {
        Warehouselore x = new Warehouselore();
        x.lot(0, 9999);
        Steps.lay(x, 0, 0, 9);
        x.order(0, false, 999);
        x.line(0, 0, 1);
        x.order(0, false, 0);
        x.line(1, 0, 2);
        for (int k = 0; k < 180; k++) x.pass(50);
        x.send(1);
        c.due("the tick 9000 and 999", x.allocate(), 1);
        x.line(0, 0, 1);
        c.due("the tick 9001", x.pass(1), 9001);
        c.due("9001 and 999 are more than 9999", x.allocate(), 0);
        x.order(0, false, 0);
        x.line(2, 0, 2);
        for (int k = 0; k < 19; k++) x.pass(50);
        c.due("the tick 9999", x.pass(48), 9999);
        c.due("the end is now", x.allocate(), 2);
        x.line(2, 0, 2);
        c.due("the tick 10000", x.pass(1), 10000);
        c.due("no lot is good any more", x.allocate(), 0);
    }

    private static void wholeOrNothing() {
        for (int off = -1; off <= 1; off++) {
            Warehouselore x = new Warehouselore();
            int soon = x.lot(0, 50), late = x.lot(0, 90), other = x.lot(1, 90);
            Steps.lay(x, 3, soon, 50); // not good enough
            Steps.lay(x, 4, late, 6);
            Steps.lay(x, 5, late, 4 + off);
            Steps.lay(x, 5, other, 2);
            x.order(0, true, 60);
            x.line(0, 1, 2);
            x.line(0, 0, 10);
            c.due("10 are wanted, there are " + (10 + off), x.allocate(), off < 0 ? 0 : 12);
            c.due("all or nothing of the line that could be", x.lacks(0, 0), off < 0 ? 2 : 0);
            c.due("all or nothing of the other line", x.lacks(0, 1), off < 0 ? 10 : 0);
            c.due("free", x.free(4, late) + x.free(5, late), off < 0 ? 9 : off);
        }
        Warehouselore y = Steps.withLots();
        Steps.lay(y, 3, 0, 9);
        Steps.order(y, 0, 1);
        y.order(4, true, 0);
        y.line(1, 0, 9);
        c.due("one is held for another order", y.allocate(), 1);
        y.send(0);
        c.due("and then free", y.allocate(), 9);
        y.line(1, 0, 1);
        c.due("a new line that lacks does not undo what was held", y.allocate() + y.lacks(1, 0), 0);
        y.lose(3, 0, 5);
        y.count(3, 0);
        y.count(3, 0);
        c.due("what is missing is lacked", y.lacks(1, 0), 5);
        Steps.lay(y, 8, 0, 5);
        c.due("one too few", y.allocate(), 0);
        Steps.lay(y, 9, 0, 1);
        c.due("whole again", y.allocate(), 6);
    }

    private static void wholeFromEachSlot() {
        for (int s = 0; s < 18; s++) for (int least = 0; least < 2; least++) {
            Warehouselore x = Steps.withLots();
            if (least == 1) x.face(s, 0, 0, 9);
            Steps.lay(x, s, 0, 3);
            x.order(0, true, 0);
            x.line(0, 0, 3);
            c.due("whole by what is in " + s, x.allocate(), 3);
            c.due("held in " + s, x.held(0, s, 0), 3);
        }
    }

    private static void endsInFaces() { // of a lot the slots that are faces go first, but lots go by their ends
        Warehouselore x = new Warehouselore();
        int late = x.lot(0, 90), soon = x.lot(0, 80), next = x.lot(0, 85);
        x.face(3, 0, 0, 9);
        x.face(4, 0, 0, 9);
        for (int l = 0; l < 3; l++) {
            Steps.lay(x, 3, l, 1);
            Steps.lay(x, 4, l, 1);
            Steps.lay(x, 0, l, 1);
        }
        Steps.order(x, 0, 1);
        int[] lots = {soon, soon, soon, next, next, next, late, late, late}, slots = {3, 4, 0, 3, 4, 0, 3, 4, 0};
        for (int k = 0; k < 9; k++) {
            c.due("one more", x.allocate(), 1);
            c.due("of the lot " + lots[k] + " in " + slots[k], x.held(k / 3, slots[k], lots[k]), 1);
            if (k % 3 == 2) x.order(0, false, 0);
            if (k < 8) x.line((k + 1) / 3, 0, 1);
        }
        c.due("none is left", x.allocate(), 0);
    }

    private static void asManyAsTheLineLacks() {
        for (int there : new int[] {1, 98, 99, 100, 150}) {
            Warehouselore x = Steps.withLots();
            Steps.lay(x, 3, 0, Math.min(99, there));
            if (there > 99) Steps.lay(x, 3, 0, there - 99);
            Steps.order(x, 0, 99);
            c.due("of " + there, x.allocate(), Math.min(99, there));
            c.due("lacks", x.lacks(0, 0), Math.max(0, 99 - there));
            c.due("free", x.free(3, 0), Math.max(0, there - 99));
            c.due("nothing more", x.allocate(), 0);
        }
    }

    // ---- waves

    private static void waveOfEachOrder() { // a set of orders; those that do not exist or were sent do not matter
        for (int o = 0; o < 8; o++) {
            Warehouselore x = Steps.withLots();
            Steps.lay(x, 3, 0, 99);
            for (int k = 0; k < 8; k++) Steps.order(x, 0, k + 1);
            x.allocate();
            c.due("the order " + o, x.wave(0, 1 << o), 1);
            c.due("its pieces", x.taskAt(0), 2101 + o);
            c.due("all the others", x.wave(1, 255 - (1 << o)), 7);
        }
        Warehouselore y = Steps.withLots();
        for (int k = 0; k < 3; k++) Steps.order(y, 0, 1);
        y.send(2);
        Steps.lay(y, 3, 0, 99);
        y.allocate();
        c.due("none of these exist, or are open", y.wave(0, 252), 0);
        c.due("no order of these, but one", y.wave(0, 254), 1);
        Warehouselore z = Steps.withLots();
        c.due("no orders at all", z.wave(0, 255), 0);
    }

    private static int turn(int slot) { return slot / 6 == 1 ? 17 - slot : slot; }

    private static void waveBySlotsBeforeLots() {
        for (int s = 0; s < 18; s++) for (int t = 0; t < 18; t++) if (s != t) {
            Warehouselore x = new Warehouselore();
            for (int l = 0; l < 12; l++) x.lot(l % 2, 9);
            Steps.lay(x, s, 11, 1);
            Steps.lay(x, t, 0, 2);
            for (int o = 0; o < 8; o++) x.order(0, false, 0);
            x.line(7, 1, 1);
            x.line(0, 0, 2);
            x.allocate();
            x.wave(0, 255);
            int first = s / 6 * 6 + turn(s) % 6 < t / 6 * 6 + turn(t) % 6 ? 2101 : 2102;
            c.due("the last lot in " + s + " for the last order, the first lot in " + t, x.taskAt(0), first);
        }
        for (int l = 1; l < 12; l++) {
            Warehouselore x = new Warehouselore();
            for (int k = 0; k < 12; k++) x.lot(k == l ? 1 : 0, 9);
            Steps.lay(x, 9, l, 1);
            Steps.lay(x, 9, l - 1, 2);
            for (int o = 0; o < 8; o++) x.order(9 - o, false, 0);
            x.line(0, 1, 1);
            x.line(7, 0, 2);
            x.allocate();
            x.wave(0, 255);
            c.due("the lower lot " + (l - 1) + ", though its order is the last", x.taskAt(0), 2102);
        }
    }

    private static void waveUpTo60() {
        for (int puts = 55; puts <= 60; puts++) {
            Warehouselore x = Steps.withLots();
            x.receive(0, 1, 99);
            for (int k = 0; k < puts; k++) x.putAway(1, 1);
            for (int s = 12; s < 15; s++) Steps.lay(x, s, 0, 1);
            Steps.order(x, 0, 2);
            Steps.order(x, 0, 1);
            x.allocate();
            if (puts + 3 > 60) c.state("three more than " + puts, () -> x.wave(0, 255));
            else c.due("three more than " + puts, x.wave(0, 255), 3);
            int before = puts + 3 > 60 ? puts : puts + 3;
            c.due("all of them, or none", x.tasks(), before);
            if (puts + 2 == 60) c.due("two of them", x.wave(0, 1), 2);
            if (puts + 1 == 60) c.due("one of them", x.wave(0, 2), 1);
            if (puts == 60) c.state("not even one", () -> x.wave(0, 2));
            if (puts == 60) c.due("none is not one too many", x.wave(0, 4), 0);
        }
    }

    // ---- robots

    private static void emptyRow() { // one without tasks goes to the front, if it is not there, and its aisle is free
        Warehouselore x = new Warehouselore();
        for (int k = 0; k < 3; k++) {
            x.pass(50);
            for (int r = 0; r < 3; r++) c.due("at the front it stays", x.where(r), NONE);
        }
        Warehouselore y = Steps.withLots();
        for (int r = 0; r < 2; r++) Steps.lay(y, r, r, 1);
        Steps.order(y, 0, 1);
        Steps.order(y, 1, 1);
        y.allocate();
        y.wave(0, 1);
        y.wave(1, 2);
        y.pass(2);
        c.due("its row is empty", y.doing(0), NONE);
        c.due("it holds the aisle", y.where(0), 0);
        c.due("so that the other one waits", y.where(1), NONE);
        y.pass(1);
        c.due("it goes to the front", y.where(0), NONE);
        c.due("and the aisle is free in the same tick for those behind", y.where(1), 0);
        y.send(1);
        c.due("its task is GONE on the way", y.doing(1), NONE);
        y.pass(1);
        c.due("so it goes to the front", y.where(1), NONE);
        c.due("nothing picked", y.stock(21, 1), 0);
        Warehouselore z = Steps.withLots();
        for (int r = 0; r < 2; r++) Steps.lay(z, r, r, 1);
        Steps.order(z, 0, 1);
        Steps.order(z, 1, 1);
        z.allocate();
        z.wave(1, 1);
        z.wave(0, 2);
        z.pass(3);
        c.due("0 is there", z.where(0), 1);
        z.pass(1);
        c.due("0 looked for the next one before 1", z.where(0), NONE);
        c.due("1 goes in", z.where(1), 0);
    }

    private static void fiftyTicksAtOnce() { // 50 ticks, or 50 times one
        for (int ticks : new int[] {1, 2, 3, 7, 20, 50}) {
            long[] atOnce = Answers.all(() -> {
                Warehouselore x = Scenes.busy();
                x.pass(ticks);
                return x;
            });
            long[] oneByOne = Answers.all(() -> {
                Warehouselore x = Scenes.busy();
                for (int k = 0; k < ticks; k++) x.pass(1);
                return x;
            });
            for (int q = 0; q < atOnce.length; q++)
                c.due(ticks + " ticks at once: " + Answers.what(q), atOnce[q], oneByOne[q]);
        }
    }

    /** REFILLs for the robots, of which robot r loads in the aisle from[r] and brings to the aisle to[r]; NONE: no task. */
    private static Warehouselore refills(int[] from, int[] to) {
        Warehouselore x = Steps.withLots();
        int[] tasks = {NONE, NONE, NONE};
        int made = 0;
        for (int r = 0; r < 3; r++) {
            if (from[r] == NONE) continue;
            Steps.lay(x, 6 * from[r], r, 9);
            x.face(6 * to[r] + 3 + r, r, 1, 2);
            x.refill();
            tasks[r] = made++;
        }
        for (int r = 0; r < 3; r++) if (tasks[r] != NONE) x.give(r, tasks[r]);
        return x;
    }

    private static void ringsOfTwo() { // the one of them with the greatest number goes to the front
        int[][] pairs = {{0, 1}, {0, 2}, {1, 2}};
        for (int[] pair : pairs) for (int a = 0; a < 3; a++) for (int b = 0; b < 3; b++) if (a != b) {
            int[] from = {NONE, NONE, NONE}, to = {NONE, NONE, NONE};
            from[pair[0]] = a;
            to[pair[0]] = b;
            from[pair[1]] = b;
            to[pair[1]] = a;
            Warehouselore x = refills(from, to);
            x.pass(2);
            c.due("both have loaded", x.where(pair[0]) + x.where(pair[1]), 10 * (a + b));
            c.due("nobody has waited yet", x.standstills(), 0);
            x.pass(1);
            c.due("one standstill", x.standstills(), 1);
            c.due("the lower one waits", x.where(pair[0]), 10 * a);
            c.due("the greater one is at the front", x.where(pair[1]), NONE);
            x.pass(1);
            c.due("the lower one goes on", x.where(pair[0]), 10 * b);
            c.due("the greater one behind it", x.where(pair[1]), 10 * a);
            Steps.work(x);
            c.due("no other one", x.standstills(), 1);
            c.due("both are DONE", x.taskAt(0) + x.taskAt(1), 2 * 1202);
        }
    }

    private static void ringsOfThree() {
        int[][] turns = {{0, 1, 2}, {0, 2, 1}, {1, 0, 2}, {1, 2, 0}, {2, 0, 1}, {2, 1, 0}};
        for (int[] from : turns) for (int way = 1; way < 3; way++) {
            int[] to = new int[3];
            for (int r = 0; r < 3; r++) to[r] = (from[r] + way) % 3;
            Warehouselore x = refills(from, to);
            x.pass(2);
            for (int r = 0; r < 3; r++) c.due("loaded", x.where(r), 10 * from[r]);
            c.due("not yet", x.standstills(), 0);
            x.pass(1);
            c.due("one ring", x.standstills(), 1);
            c.due("0 waits", x.where(0), 10 * from[0]);
            c.due("1 waits", x.where(1), 10 * from[1]);
            c.due("2 is at the front", x.where(2), NONE);
            Steps.work(x);
            c.due("one standstill in all", x.standstills(), 1);
            for (int t = 0; t < 3; t++) c.due("DONE", x.taskAt(t), 1202);
        }
    }

    private static void ringAndOneThatWaits() { // 2 waits for one of the ring, but is none of it
        for (int aisle = 0; aisle < 2; aisle++) {
            Warehouselore x = refills(new int[] {0, 1, 2}, new int[] {1, 0, aisle});
            x.pass(3);
            c.due("one standstill", x.standstills(), 1);
            c.due("0 waits", x.where(0), 0);
            c.due("1 goes to the front, the greatest of the ring", x.where(1), NONE);
            c.due("2 waits in its aisle", x.where(2), 20);
            Warehouselore y = refills(new int[] {0, 1, NONE}, new int[] {1, 0, NONE});
            Steps.lay(y, 6 * aisle, 3, 1);
            Steps.order(y, 3, 1);
            y.allocate();
            y.wave(2, 1);
            y.pass(3);
            c.due("one standstill, with 2 at the front", y.standstills(), 1);
            c.due("1 goes to the front", y.where(1), NONE);
            c.due("2 is there still", y.where(2), NONE);
        }
    }

    // ---- shorts, counts

    private static void shortByOne() { // if fewer pieces of the lot are there than it wants
        for (int there = 0; there <= 7; there++) {
            Warehouselore x = Steps.withLots();
            Steps.lay(x, 0, 0, 10);
            Steps.order(x, 0, 6);
            x.allocate();
            x.wave(0, 1);
            x.lose(0, 0, 10 - there);
            x.pass(2);
            int picked = Math.min(6, there);
            c.due("DONE, of " + there, x.taskAt(0), 2200 + picked);
            c.due("at the stand", x.stock(20, 0), picked);
            c.due("in the book", x.stock(0, 0), there < 6 ? 0 : 4);
            c.due("made anew", x.stockAnew(0, 0), there < 6 ? 0 : 4);
            c.due("free", x.free(0, 0), there < 6 ? 0 : 4);
            c.due("lacks", x.lacks(0, 0), 6 - picked);
            c.due("on the bill", x.bill(), 12 + picked);
            c.due("in truth", x.count(0, 0), there < 6 ? 0 : there - 6);
        }
    }

    private static void shortOfRefillByOne() {
        for (int there = 0; there <= 7; there++) {
            Warehouselore x = Steps.withLots();
            Steps.lay(x, 0, 0, 10);
            x.face(1, 0, 6, 6);
            x.refill();
            x.give(0, 0);
            x.lose(0, 0, 10 - there);
            x.pass(2);
            int wanted = Math.min(6, there);
            c.due("of " + there, x.taskAt(0), there == 0 ? 1300 : 1100 + wanted);
            c.due("in the book, where it was", x.stock(0, 0), there < 6 ? there : 10);
            c.due("free", x.free(0, 0), there < 6 ? 0 : 4);
            c.due("room of the face", x.room(1), 100 - wanted);
            c.due("first of the row", x.doing(0), there == 0 ? NONE : 0);
            x.pass(2);
            c.due("in the face", x.stock(1, 0), wanted);
            c.due("in the face in truth", x.count(1, 0), wanted);
            c.due("on the bill", x.bill(), 18 + (there == 0 ? 0 : 4));
        }
    }

    private static void moreThanTheBook() {
        Warehouselore x = Steps.withLots();
        Steps.lay(x, 0, 0, 6);
        Steps.order(x, 0, 6);
        x.allocate();
        x.wave(0, 1);
        x.find(0, 0, 5);
        x.pass(2);
        c.due("no more than it wants", x.taskAt(0), 2206);
        c.due("the book has none", x.stock(0, 0), 0);
        c.due("5 are there in truth", x.count(0, 0), 5);
        c.due("a doubt", x.stock(0, 0), 0);
        x.count(0, 0);
        c.due("sure, with nothing in the book", x.stock(0, 0), 5);
        x.lose(0, 0, 99);
        x.count(0, 0);
        x.count(0, 0);
        c.due("sure, with nothing in truth", x.stock(0, 0), 0);
    }

    private static void shortForOthers() { // what is there still goes to the others by rising orders, refillings last
        for (int there = 0; there <= 13; there++) {
            Warehouselore x = Steps.withLots();
            Steps.lay(x, 0, 0, 12);
            x.face(1, 0, 2, 2);
            x.refill(); // 2
            Steps.order(x, 0, 3); // 0
            x.order(9, false, 0); // 1
            x.line(1, 0, 4);
            x.allocate();
            x.wave(0, 2); // the PICK of the order 1
            if (there < 12) x.lose(0, 0, 12 - there);
            else if (there > 12) x.find(0, 0, there - 12);
            x.count(0, 0);
            x.count(0, 0);
            int first = Math.min(3, there), second = Math.min(4, there - first), last = Math.min(2, there - first - second);
            c.due("the book has " + there, x.stock(0, 0), there);
            c.due("the order 0", x.held(0, 0, 0), first);
            c.due("the order 1", x.held(1, 0, 0), second);
            c.due("its PICK", x.taskAt(1), second == 0 ? 2300 : 2100 + second);
            c.due("the REFILL", x.taskAt(0), last == 0 ? 1300 : 1000 + last);
            c.due("room of the face", x.room(1), 100 - last);
            c.due("free", x.free(0, 0), Math.max(0, there - 9));
            c.due("lacks of 0", x.lacks(0, 0), 3 - first);
            c.due("lacks of 1", x.lacks(1, 0), 4 - second);
            c.due("PICKs for what is held without one", x.wave(1, 3), first > 0 ? 1 : 0);
        }
    }

    private static void refillingsLast() { // behind the last order too, and though they were held first
        for (int there = 0; there <= 10; there++) {
            Warehouselore x = Steps.withLots();
            for (int o = 0; o < 8; o++) x.order(0, false, 0);
            Steps.lay(x, 0, 0, 10);
            x.face(1, 0, 2, 2);
            x.face(2, 0, 3, 3);
            x.refill();
            x.line(7, 0, 5);
            c.due("5 are left for the order 7", x.allocate(), 5);
            if (there < 10) x.lose(0, 0, 10 - there);
            x.count(0, 0);
            x.count(0, 0);
            int held = Math.min(5, there), first = Math.min(2, there - held), second = Math.min(3, there - held - first);
            c.due("of " + there + " for the order 7", x.held(7, 0, 0), held);
            c.due("the first REFILL", x.taskAt(0), first == 0 ? 1300 : 1000 + first);
            c.due("the second REFILL", x.taskAt(1), second == 0 ? 1300 : 1000 + second);
            c.due("none is free", x.free(0, 0), 0);
        }
    }

    private static void countsBesideTheBook() { // if that is what the book tells, there is no doubt any more
        for (int there : new int[] {0, 1, 8, 9, 10, 11, 108}) {
            Warehouselore x = Steps.withLots();
            Steps.lay(x, 17, 0, 9);
            if (there < 9) x.lose(17, 0, 9 - there);
            if (there > 9) x.find(17, 0, there - 9);
            c.due("in truth", x.count(17, 0), there);
            c.due("the first count changes nothing", x.stock(17, 0), 9);
            c.due("nor the room", x.room(17), 91);
            c.due("the second", x.count(17, 0), there);
            c.due("is sure", x.stock(17, 0), there);
            c.due("made anew", x.stockAnew(17, 0), there);
            c.due("the room", x.room(17), 100 - there);
            c.due("6 for each", x.bill(), 24);
            c.due("the third", x.count(17, 0), there);
            c.due("changes nothing", x.stock(17, 0), there);
        }
    }

    private static void doubtsApart() {
        Warehouselore x = Steps.withLots();
        for (int s = 0; s < 18; s += 17) for (int l = 0; l < 6; l += 5) Steps.lay(x, s, l, 9);
        for (int s = 0; s < 18; s += 17) for (int l = 0; l < 6; l += 5) x.lose(s, l, 2);
        for (int s = 0; s < 18; s += 17) for (int l = 0; l < 6; l += 5) x.count(s, l);
        for (int s = 0; s < 18; s += 17) for (int l = 0; l < 6; l += 5) c.due("a doubt of each", x.stock(s, l), 9);
        x.count(17, 5);
        c.due("sure", x.stock(17, 5), 7);
        c.due("the others are not", x.stock(0, 0) + x.stock(0, 5) + x.stock(17, 0), 27);
        Warehouselore y = Steps.withLots();
        Steps.lay(y, 0, 0, 9);
        y.find(0, 0, 1);
        y.count(0, 0); // 10
        y.lose(0, 0, 2);
        y.count(0, 0); // 8, in place of 10
        y.find(0, 0, 2);
        y.count(0, 0); // 10, in place of 8
        c.due("each in place of the earlier one", y.stock(0, 0), 9);
        y.count(0, 0);
        c.due("twice", y.stock(0, 0), 10);
    }

    // ---- boxes

    /** The order 0 with as many pieces as are told of items of a size, a weight and a group, at its stand. */
    private static Warehouselore stand(int[]... items) {
        Warehouselore x = new Warehouselore();
        x.order(0, false, 0);
        for (int i = 0; i < items.length; i++) {
            x.item(i, 0, items[i][0], items[i][1], items[i][2], 1);
            Steps.lay(x, 6 * i, x.lot(i, 9999), items[i][3]);
            x.line(0, i, items[i][3]);
        }
        x.allocate();
        x.wave(0, 1);
        Steps.work(x);
        return x;
    }

    private static void packed(String what, Warehouselore x, int... boxes) {
        c.due(what, x.boxes(0), boxes.length);
        for (int b = 0; b < boxes.length; b++) c.due(what + ": the box " + b, x.boxAt(0, b), boxes[b]);
        c.index(what + ": no more", () -> x.boxAt(0, boxes.length));
        c.index(what + ": none before", () -> x.boxAt(0, -1));
    }

    private static void boxUpTo30() { // the sizes are together at most 30
        packed("9, 9, 9 and 3", stand(new int[] {9, 1, 0, 3}, new int[] {3, 1, 0, 1}), 4004);
        packed("9, 9, 9 and 4", stand(new int[] {9, 1, 0, 3}, new int[] {4, 1, 0, 1}), 3003, 1001);
        packed("9, 9, 9 and 2", stand(new int[] {9, 1, 0, 3}, new int[] {2, 1, 0, 1}), 4004);
        packed("thirty of the size 1", stand(new int[] {1, 1, 0, 30}), 30030);
        packed("thirty-one", stand(new int[] {1, 1, 0, 31}), 30030, 1001);
        packed("a small one fills an earlier box", stand(new int[] {8, 1, 0, 4}, new int[] {6, 2, 0, 1}, new int[] {1, 3, 0, 1}),
            3 * 1000 + 2000 + 4, 4002);
    }

    private static void boxUpTo50() { // and the weights at most 50
        packed("20, 20 and 10", stand(new int[] {2, 20, 0, 2}, new int[] {1, 10, 0, 1}), 50003);
        packed("20, 20 and 11", stand(new int[] {2, 20, 0, 2}, new int[] {1, 11, 0, 1}), 40002, 11001);
        packed("20, 20 and 9", stand(new int[] {2, 20, 0, 2}, new int[] {1, 9, 0, 1}), 49003);
        packed("both at once", stand(new int[] {6, 10, 0, 5}), 50005);
        packed("both at once, and one", stand(new int[] {6, 10, 0, 6}), 50005, 10001);
        packed("one alone", stand(new int[] {9, 20, 0, 1}), 20001);
        packed("nothing", stand());
    }

    private static void fullStand() { // 297 pieces
        Warehouselore x = Scenes.fullStand();
        c.due("all of them barred from one another", x.boxes(0), 150);
        for (int b = 0; b < 150; b++) c.due("the box " + b, x.boxAt(0, b), b % 50 == 49 ? 20001 : 40002);
        c.index("the box 150", () -> x.boxAt(0, 150));
        for (int i = 0; i < 3; i++) x.bar(i, (i + 1) % 3, false);
        c.due("not barred any more", x.boxes(0), 149);
        c.due("the last one", x.boxAt(0, 148), 20001);
        int bill = x.bill();
        c.due("all is sent", x.send(0), 297);
        c.due("5 for each box", x.bill(), bill + 5 * 149);
        c.due("as it was packed", x.boxAt(0, 148), 20001);
        Warehouselore y = stand(new int[] {1, 1, 0, 99}, new int[] {1, 1, 0, 99}, new int[] {1, 1, 0, 99});
        c.due("small ones", y.boxes(0), 10);
        c.due("thirty in each", y.boxAt(0, 8), 30030);
        c.due("and the last", y.boxAt(0, 9), 27027);
    }

    private static void barsInBoxes() { // no two different items have groups that are barred from one another
        for (int g = 0; g < 4; g++) for (int h = 0; h < 4; h++) {
            Warehouselore x = stand(new int[] {2, 1, g, 3}, new int[] {1, 2, h, 3});
            packed("together", x, 9006);
            x.bar(h, g, true);
            packed("apart", x, 3003, 6003);
            x.bar(g, h, false);
            for (int i = 0; i < 4; i++) for (int k = 0; k < 4; k++) if (i * 10 + k != g * 10 + h && i * 10 + k != h * 10 + g) x.bar(i, k, true);
            packed("all others are barred", x, 9006);
        }
    }

    // ---- sending, returns, recalls

    private static void nothingToSend() {
        Warehouselore x = Scenes.eightOrders();
        for (int o = 0; o < 8; o++) {
            c.due("no box", x.boxes(o), 0);
            c.due("nothing", x.send(o), 0);
            c.due("no box then", x.boxes(o), 0);
        }
        c.due("nothing on the bill", x.bill(), 0);
        c.state("and no more orders", () -> x.order(0, false, 0));
        c.due("nothing to allocate for", x.allocate(), 0);
        c.due("nothing to pick", x.wave(0, 255), 0);
    }

    private static void backAndForth() { // more than 99 can be sent, and come back, but not at once
        Warehouselore x = Steps.withLots();
        Steps.lay(x, 0, 0, 99);
        Steps.lay(x, 0, 0, 99);
        Steps.order(x, 0, 99);
        x.line(0, 0, 99);
        x.allocate();
        x.wave(0, 1);
        x.pass(9);
        c.due("198 pieces", x.send(0), 198);
        c.due("sent", x.sent(0, 0), 198);
        c.state("not of another lot", () -> x.comeBack(0, 1, 1));
        c.due("99", x.comeBack(0, 0, 99), 99);
        c.due("98 more", x.comeBack(0, 0, 98), 197);
        c.state("only 1 is left", () -> x.comeBack(0, 0, 2));
        c.due("the last one", x.comeBack(0, 0, 1), 198);
        c.state("none is left", () -> x.comeBack(0, 0, 1));
        c.due("none is out", x.recall(0), 0);
        c.due("good ones", x.judge(0, 99, true), 99);
        c.due("bad ones", x.judge(0, 98, false), 1);
        c.state("only 1 is there", () -> x.judge(0, 2, true));
        c.due("the last one", x.judge(0, 1, true), 0);
        c.state("none is there", () -> x.judge(0, 1, false));
        c.due("at the DOCK", x.stock(DOCK, 0), 100);
        c.due("none in QUARANTINE", x.stock(QUARANTINE, 0), 0);
        c.due("made anew", x.stockAnew(DOCK, 0) * 10 + x.stockAnew(QUARANTINE, 0), 1000);
        c.due("24 for counts, 198 picked, 10 boxes at least", x.bill(), 24 + 198 + 5 * x.boxes(0) + 2 * 198);
    }

    private static void recalledFromAll() {
        Warehouselore x = Steps.withLots();
        Steps.lay(x, 0, 0, 99);
        for (int o = 0; o < 8; o++) Steps.order(x, 0, o + 1);
        x.allocate();
        x.wave(0, 255);
        x.pass(20);
        for (int o = 0; o < 7; o++) x.send(o);
        x.comeBack(6, 0, 7);
        x.comeBack(5, 0, 1);
        c.due("1 to 6 that were sent, less 1; what is at the stand was not", x.recall(0), 20);
        c.due("what is at the stand stays", x.stock(27, 0), 8);
        c.due("and can be sent", x.send(7), 8);
        c.due("it was sent", x.sent(7, 0), 8);
        c.state("recalled already", () -> x.recall(0));
        c.due("it can come back", x.comeBack(7, 0, 8), 16);
    }

    private static void theLastOfAll() { // the last item, lot, notice, slot, order, line, robot and task
        Warehouselore x = new Warehouselore();
        x.item(5, 2, 9, 20, 3, 12);
        for (int l = 0; l < 12; l++) x.lot(5, 9999);
        for (int n = 0; n < 8; n++) x.notice(5, 99);
        x.slot(17, 2, 200);
        x.slot(16, 2, 108);
        c.due("the last lot", x.receive(7, 11, 22), 22);
        c.due("received", x.received(7, 11), 22);
        c.due("the last slot has less room left than 16", Steps.put(x, 2, 11, 6), 16);
        c.due("received against the first notice too", x.received(0, 11), 6);
        c.due("room is held", x.room(16), 54);
        c.state("room is held for the last item", () -> x.slot(16, 2, 100));
        c.due("as it is more than fits there", x.putAway(11, 22), 17);
        c.due("room for 22 of the size 9", x.room(17), 2);
        c.state("room is held in the last slot", () -> x.face(17, NONE, 0, 0));
        x.give(2, 1);
        x.pass(50);
        c.due("there", x.stock(17, 11) * 100 + x.stock(16, 11), 2206);
        for (int o = 0; o < 8; o++) x.order(0, true, 0);
        c.due("the first line", x.line(7, 5, 3), 1);
        c.due("the second", x.line(7, 5, 3), 2);
        c.due("the last", x.line(7, 5, 9), 3);
        c.due("held", x.allocate(), 15);
        c.due("in 16 first", x.held(7, 16, 11), 6);
        c.due("in 17", x.held(7, 17, 11), 9);
        c.due("lacks", x.lacks(7, 2), 0);
        c.due("PICKs", x.wave(2, 128), 3);
        x.pass(50);
        c.due("the last stand", x.stock(27, 11), 15);
        c.due("made anew", x.stockAnew(27, 11), 15);
        c.due("boxes", x.boxes(7), 8);
        c.due("the last one", x.boxAt(7, 7), 20001);
        c.due("sent", x.send(7), 15);
        c.due("boxes that were sent", x.boxes(7), 8);
        c.due("the last one that was sent", x.boxAt(7, 7), 20001);
        c.due("of the last lot", x.sent(7, 11), 15);
        c.due("back", x.comeBack(7, 11, 15), 15);
        c.due("bad", x.judge(11, 14, false), 1);
        c.due("lost", x.lose(17, 11, 99), 0);
        c.due("counted", x.count(17, 11), 0);
        c.due("counted again", x.count(17, 11), 0);
        c.due("none in the last slot", x.room(17), 200);
        c.due("nothing is out", x.recall(11), 0);
        c.due("the bill", x.bill(), 2 * 28 + 2 * 3 + 15 + 8 * 5 + 2 * 15 + 2 * 6);
    }
}
