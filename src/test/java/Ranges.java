import java.util.ArrayList;
import java.util.List;
import java.util.function.Supplier;

/** Each call with the range of each of its arguments, for RangesTest and RefusalsTest. */
final class Ranges {
    static final int BIG = Integer.MAX_VALUE, SMALL = Integer.MIN_VALUE;

    interface Call { void on(Warehouselore x, int[] a); }

    /** The range of one argument; least above most: no value is allowed. */
    static final class Range {
        final boolean isIndex;
        final int least, most;

        Range(boolean isIndex, int least, int most) {
            this.isIndex = isIndex;
            this.least = least;
            this.most = most;
        }

        boolean allows(int value) { return value >= least && value <= most; }

        /** The last one that is allowed and the first one that is not, on either side; the least and the greatest int. */
        int[] edges() { return new int[] {least, most, least - 1, most + 1, SMALL, BIG}; }

        int[] outside() { return new int[] {least - 1, most + 1, SMALL, BIG}; }
    }

    /** What is due when all arguments are allowed: an answer, an IllegalStateException, or either one. */
    enum Else { ANSWER, STATE, EITHER }

    static final class Row {
        final String name;
        final Supplier<Warehouselore> scene;
        final Else otherwise;
        final Call call;
        final Range[] ranges;

        Row(String name, Supplier<Warehouselore> scene, Else otherwise, Call call, Range... ranges) {
            this.name = name;
            this.scene = scene;
            this.otherwise = otherwise;
            this.call = call;
            this.ranges = ranges;
        }

        /** The exception that is due: of several the one that is listed first; null for none, or for either. */
        Class<? extends RuntimeException> due(int[] a) {
            for (int i = 0; i < a.length; i++)
                if (ranges[i].isIndex && !ranges[i].allows(a[i])) return IndexOutOfBoundsException.class;
            for (int i = 0; i < a.length; i++) if (!ranges[i].allows(a[i])) return IllegalArgumentException.class;
            return otherwise == Else.STATE ? IllegalStateException.class : null;
        }

        boolean isFree(int[] a) { return otherwise == Else.EITHER && due(a) == null; }

        String told(int[] a) {
            StringBuilder s = new StringBuilder(name).append('(');
            for (int i = 0; i < a.length; i++) s.append(i == 0 ? "" : ", ").append(a[i]);
            return s.append(')').toString();
        }
    }

    private static final List<Row> ROWS = new ArrayList<>();

    private Ranges() { }

    static List<Row> rows() {
        if (ROWS.isEmpty()) {
            places();
            deliveries();
            orders();
            tasks();
            counts();
            sending();
            everythingOn("busy: ", Scenes::busy, Scenes.BUSY);
            everythingOn("new: ", Warehouselore::new, new int[] {0, 0, 0, 0});
        }
        return ROWS;
    }

    private static Range index(int least, int most) { return new Range(true, least, most); }
    private static Range argument(int least, int most) { return new Range(false, least, most); }
    private static Range firstOf(int number) { return index(0, number - 1); }

    private static void row(String name, Supplier<Warehouselore> scene, Else otherwise, Call call, Range... ranges) {
        ROWS.add(new Row(name, scene, otherwise, call, ranges));
    }

    private static void answers(String name, Supplier<Warehouselore> scene, Call call, Range... ranges) {
        row(name, scene, Else.ANSWER, call, ranges);
    }

    private static void refuses(String name, Supplier<Warehouselore> scene, Call call, Range... ranges) {
        row(name, scene, Else.STATE, call, ranges);
    }

    private static void places() {
        Call slot = (x, a) -> x.slot(a[0], a[1], a[2]);
        Range[] ofSlot = {index(0, 17), argument(0, 2), argument(1, 200)};
        answers("slot", Warehouselore::new, slot, ofSlot);
        refuses("slot, something in it: ", Scenes::somethingInAllSlots, slot, ofSlot);
        refuses("slot, a face: ", Scenes::allSlotsFaces, slot, ofSlot);
        refuses("slot, room held: ", Scenes::roomHeldInAllSlots, slot, ofSlot);
        faces();
        Call item = (x, a) -> x.item(a[0], a[1], a[2], a[3], a[4], a[5]);
        Range[] ofItem = {index(0, 5), argument(0, 2), argument(1, 9), argument(1, 20), index(0, 3), argument(1, 12)};
        answers("item", Warehouselore::new, item, ofItem);
        refuses("item, a lot of it: ", Scenes::twelveLots, item, ofItem);
        refuses("item, a face of it: ", Scenes::faceOfEachItem, item, ofItem);
        answers("bar", Warehouselore::new, (x, a) -> x.bar(a[0], a[1], true), index(0, 3), index(0, 3));
        answers("bar no more", Warehouselore::new, (x, a) -> x.bar(a[0], a[1], false), index(0, 3), index(0, 3));
        answers("lot", Warehouselore::new, (x, a) -> x.lot(a[0], a[1]), index(0, 5), argument(0, 9999));
        refuses("lot, a 13th: ", Scenes::twelveLots, (x, a) -> x.lot(a[0], a[1]), index(0, 5), argument(0, 9999));
        answers("stock", Scenes::twelveLots, (x, a) -> x.stock(a[0], a[1]), index(0, 27), firstOf(12));
        answers("stockAnew", Scenes::twelveLots, (x, a) -> x.stockAnew(a[0], a[1]), index(0, 27), firstOf(12));
        answers("free", Scenes::twelveLots, (x, a) -> x.free(a[0], a[1]), index(0, 18), firstOf(12));
        answers("room", Warehouselore::new, (x, a) -> x.room(a[0]), index(0, 17));
    }

    private static void faces() {
        Range slot = index(0, 17);
        answers("face, of 0 and 0: ", Warehouselore::new, (x, a) -> x.face(a[0], a[1], 0, 0), slot, index(-1, 5));
        answers("face, least: ", Warehouselore::new, (x, a) -> x.face(a[0], 0, a[1], 99), slot, argument(0, 99));
        answers("face, most: ", Warehouselore::new, (x, a) -> x.face(a[0], 5, 0, a[1]), slot, argument(0, 99));
        answers("face, most from 50: ", Warehouselore::new, (x, a) -> x.face(a[0], 0, 50, a[1]), slot, argument(50, 99));
        answers("face, least up to 50: ", Warehouselore::new, (x, a) -> x.face(a[0], 0, a[1], 50), slot, argument(0, 50));
        answers("face, NONE: ", Warehouselore::new, (x, a) -> x.face(a[0], -1, a[1], a[2]), slot, argument(0, 0), argument(0, 0));
        answers("face, NONE of faces: ", Scenes::allSlotsFaces, (x, a) -> x.face(a[0], -1, a[1], a[2]), slot, argument(0, 0), argument(0, 0));
        refuses("face, something in it: ", Scenes::somethingInAllSlots, (x, a) -> x.face(a[0], 0, 0, a[1]), slot, argument(0, 99));
        refuses("face, something in it, NONE: ", Scenes::somethingInAllSlots, (x, a) -> x.face(a[0], -1, a[1], 0), slot, argument(0, 0));
        refuses("face, room held: ", Scenes::roomHeldInAllSlots, (x, a) -> x.face(a[0], a[1], 0, 0), slot, index(-1, 5));
        for (int i = 0; i < 6; i++) {
            int item = i;
            refuses("face, another zone than " + i + ": ", Scenes::otherZones, (x, a) -> x.face(a[0], item, a[1], 99), slot, argument(0, 99));
        }
        answers("face, NONE, of whichever zone: ", Scenes::otherZones, (x, a) -> x.face(a[0], -1, 0, 0), slot);
    }

    private static void deliveries() {
        Call notice = (x, a) -> x.notice(a[0], a[1]);
        answers("notice", Warehouselore::new, notice, index(0, 5), argument(1, 99));
        refuses("notice, a 9th: ", Scenes::eightNotices, notice, index(0, 5), argument(1, 99));
        Call receive = (x, a) -> x.receive(a[0], a[1], a[2]);
        answers("receive", Scenes::eightNotices, receive, firstOf(8), firstOf(12), argument(1, 99));
        refuses("receive, closed: ", Scenes::eightClosed, receive, firstOf(8), firstOf(12), argument(1, 99));
        answers("close", Scenes::eightNotices, (x, a) -> x.close(a[0]), firstOf(8));
        refuses("close, closed: ", Scenes::eightClosed, (x, a) -> x.close(a[0]), firstOf(8));
        answers("others", Scenes::eightClosed, (x, a) -> x.others(a[0]), firstOf(8));
        answers("received", Scenes::eightClosed, (x, a) -> x.received(a[0], a[1]), firstOf(8), firstOf(12));
        Call putAway = (x, a) -> x.putAway(a[0], a[1]);
        answers("putAway", Scenes::all99AtTheDock, putAway, firstOf(12), argument(1, 99));
        answers("putAway, nowhere: ", Scenes::dockButNoRoom, putAway, firstOf(12), argument(1, 99));
        refuses("putAway, fewer are free: ", Scenes::eightNotices, putAway, firstOf(12), argument(1, 99));
        refuses("putAway, 60 tasks: ", Scenes::sixtyTasks, putAway, firstOf(6), argument(1, 99));
        refuses("putAway, all are held: ", Scenes::allHeldAtTheDock, putAway, firstOf(12), argument(1, 99));
    }

    private static void orders() {
        for (boolean isWhole : new boolean[] {false, true}) {
            Call order = (x, a) -> x.order(a[0], isWhole, a[1]);
            answers("order, whole " + isWhole + ": ", Warehouselore::new, order, argument(0, 9), argument(0, 999));
            refuses("order, a 9th, whole " + isWhole + ": ", Scenes::eightOrders, order, argument(0, 9), argument(0, 999));
        }
        Call line = (x, a) -> x.line(a[0], a[1], a[2]);
        Range[] ofLine = {firstOf(8), index(0, 5), argument(1, 99)};
        answers("line", Scenes::eightOrders, line, ofLine);
        refuses("line, a 4th: ", Scenes::threeLinesEach, line, ofLine);
        refuses("line, sent: ", Scenes::eightSent, line, ofLine);
        answers("lacks", Scenes::threeLinesEach, (x, a) -> x.lacks(a[0], a[1]), firstOf(8), firstOf(3));
        answers("lacks, no lines: ", Scenes::eightOrders, (x, a) -> x.lacks(a[0], a[1]), firstOf(8), firstOf(0));
        answers("held", Scenes::threeLinesEach, (x, a) -> x.held(a[0], a[1], a[2]), firstOf(8), index(0, 17), firstOf(12));
    }

    private static void tasks() {
        Call wave = (x, a) -> x.wave(a[0], a[1]);
        answers("wave", Scenes::threeLinesEach, wave, index(0, 2), argument(1, 255));
        refuses("wave, more than 60: ", Scenes::threeHoldingsAndFiftyEight, wave, index(0, 2), argument(1, 255));
        Call give = (x, a) -> x.give(a[0], a[1]);
        answers("give", Scenes::sixtyTasks, give, index(0, 2), firstOf(60));
        refuses("give, TAKEN: ", () -> Scenes.twelveTasks(1), give, index(0, 2), firstOf(12));
        refuses("give, DONE: ", () -> Scenes.twelveTasks(2), give, index(0, 2), firstOf(12));
        refuses("give, GONE: ", Scenes::goneTasks, give, index(0, 2), firstOf(3));
        answers("pass", Warehouselore::new, (x, a) -> x.pass(a[0]), argument(1, 50));
        answers("where", Warehouselore::new, (x, a) -> x.where(a[0]), index(0, 2));
        answers("doing", Warehouselore::new, (x, a) -> x.doing(a[0]), index(0, 2));
        answers("taskAt", Scenes::sixtyTasks, (x, a) -> x.taskAt(a[0]), firstOf(60));
    }

    private static void counts() {
        Range[] ofPieces = {index(0, 17), firstOf(12), argument(1, 99)};
        answers("lose", Scenes::twelveLots, (x, a) -> x.lose(a[0], a[1], a[2]), ofPieces);
        answers("lose, some: ", Scenes::somethingInAllSlots, (x, a) -> x.lose(a[0], a[1], a[2]), index(0, 17), firstOf(6), argument(1, 99));
        answers("find", Scenes::twelveLots, (x, a) -> x.find(a[0], a[1], a[2]), ofPieces);
        answers("count", Scenes::twelveLots, (x, a) -> x.count(a[0], a[1]), index(0, 17), firstOf(12));
    }

    private static void sending() {
        answers("boxes", Scenes::eightOrders, (x, a) -> x.boxes(a[0]), firstOf(8));
        answers("boxAt, no box: ", Scenes::eightOrders, (x, a) -> x.boxAt(a[0], a[1]), firstOf(8), firstOf(0));
        answers("boxAt", Scenes::fullStand, (x, a) -> x.boxAt(a[0], a[1]), firstOf(1), firstOf(150));
        answers("boxAt, sent: ", Scenes::fullySent, (x, a) -> x.boxAt(a[0], a[1]), firstOf(1), firstOf(150));
        answers("send", Scenes::eightOrders, (x, a) -> x.send(a[0]), firstOf(8));
        refuses("send, sent: ", Scenes::eightSent, (x, a) -> x.send(a[0]), firstOf(8));
        answers("sent", Scenes::eightSent, (x, a) -> x.sent(a[0], a[1]), firstOf(8), firstOf(12));
        Call comeBack = (x, a) -> x.comeBack(a[0], a[1], a[2]);
        answers("comeBack", Scenes::fullySent, comeBack, firstOf(1), firstOf(3), argument(1, 99));
        refuses("comeBack, not sent yet: ", Scenes::fullStand, comeBack, firstOf(1), firstOf(3), argument(1, 99));
        refuses("comeBack, none were sent: ", Scenes::eightSent, comeBack, firstOf(8), firstOf(12), argument(1, 99));
        refuses("comeBack, all came back: ", Scenes::allCameBack, comeBack, firstOf(1), firstOf(3), argument(1, 99));
        for (boolean isGood : new boolean[] {false, true}) {
            Call judge = (x, a) -> x.judge(a[0], a[1], isGood);
            answers("judge, good " + isGood + ": ", Scenes::allCameBack, judge, firstOf(3), argument(1, 99));
            refuses("judge, none there, good " + isGood + ": ", Scenes::fullySent, judge, firstOf(3), argument(1, 99));
        }
        answers("recall", Scenes::twelveLots, (x, a) -> x.recall(a[0]), firstOf(12));
        refuses("recall, recalled: ", Scenes::twelveRecalled, (x, a) -> x.recall(a[0]), firstOf(12));
    }

    /** All calls with arguments on one scene; there: how many lots, notices, orders and tasks it has. */
    private static void everythingOn(String what, Supplier<Warehouselore> scene, int[] there) {
        Range slot = index(0, 17), place = index(0, 27), item = index(0, 5), group = index(0, 3), robot = index(0, 2);
        Range lot = firstOf(there[0]), notice = firstOf(there[1]), order = firstOf(there[2]), task = firstOf(there[3]);
        Range pieces = argument(1, 99);
        either(what + "slot", scene, (x, a) -> x.slot(a[0], a[1], a[2]), slot, argument(0, 2), argument(1, 200));
        either(what + "face", scene, (x, a) -> x.face(a[0], a[1], 0, 0), slot, index(-1, 5));
        either(what + "face, most: ", scene, (x, a) -> x.face(a[0], 0, 0, a[1]), slot, argument(0, 99));
        either(what + "item", scene, (x, a) -> x.item(a[0], a[1], a[2], 1, a[3], a[4]), item, argument(0, 2), argument(1, 9), group, argument(1, 12));
        either(what + "bar", scene, (x, a) -> x.bar(a[0], a[1], true), group, group);
        either(what + "lot", scene, (x, a) -> x.lot(a[0], a[1]), item, argument(0, 9999));
        either(what + "stock", scene, (x, a) -> x.stock(a[0], a[1]), place, lot);
        either(what + "stockAnew", scene, (x, a) -> x.stockAnew(a[0], a[1]), place, lot);
        either(what + "free", scene, (x, a) -> x.free(a[0], a[1]), index(0, 18), lot);
        either(what + "room", scene, (x, a) -> x.room(a[0]), slot);
        either(what + "notice", scene, (x, a) -> x.notice(a[0], a[1]), item, pieces);
        either(what + "receive", scene, (x, a) -> x.receive(a[0], a[1], a[2]), notice, lot, pieces);
        either(what + "close", scene, (x, a) -> x.close(a[0]), notice);
        either(what + "others", scene, (x, a) -> x.others(a[0]), notice);
        either(what + "putAway", scene, (x, a) -> x.putAway(a[0], a[1]), lot, pieces);
        either(what + "order", scene, (x, a) -> x.order(a[0], true, a[1]), argument(0, 9), argument(0, 999));
        either(what + "line", scene, (x, a) -> x.line(a[0], a[1], a[2]), order, item, pieces);
        either(what + "held", scene, (x, a) -> x.held(a[0], a[1], a[2]), order, slot, lot);
        either(what + "wave", scene, (x, a) -> x.wave(a[0], a[1]), robot, argument(1, 255));
        either(what + "give", scene, (x, a) -> x.give(a[0], a[1]), robot, task);
        either(what + "pass", scene, (x, a) -> x.pass(a[0]), argument(1, 50));
        either(what + "where", scene, (x, a) -> x.where(a[0]), robot);
        either(what + "doing", scene, (x, a) -> x.doing(a[0]), robot);
        either(what + "taskAt", scene, (x, a) -> x.taskAt(a[0]), task);
        either(what + "lose", scene, (x, a) -> x.lose(a[0], a[1], a[2]), slot, lot, pieces);
        either(what + "count", scene, (x, a) -> x.count(a[0], a[1]), slot, lot);
        either(what + "find", scene, (x, a) -> x.find(a[0], a[1], a[2]), slot, lot, pieces);
        either(what + "boxes", scene, (x, a) -> x.boxes(a[0]), order);
        either(what + "send", scene, (x, a) -> x.send(a[0]), order);
        either(what + "sent", scene, (x, a) -> x.sent(a[0], a[1]), order, lot);
        either(what + "received", scene, (x, a) -> x.received(a[0], a[1]), notice, lot);
        either(what + "comeBack", scene, (x, a) -> x.comeBack(a[0], a[1], a[2]), order, lot, pieces);
        either(what + "judge", scene, (x, a) -> x.judge(a[0], a[1], false), lot, pieces);
        either(what + "recall", scene, (x, a) -> x.recall(a[0]), lot);
    }

    private static void either(String name, Supplier<Warehouselore> scene, Call call, Range... ranges) {
        row(name, scene, Else.EITHER, call, ranges);
    }
}
