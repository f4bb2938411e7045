import java.util.ArrayList;
import java.util.Arrays;

/**
 * A warehouse by the document in ../shared/DOC.md: slots, items and lots, deliveries, putting away,
 * orders, waves, robots, shorts, counts, boxes, returns, recalls and the bill.
 */
public final class Warehouselore {
    public static final int NONE = -1;
    public static final int DOCK = 18, QUARANTINE = 19;
    public static final int PUT = 0, REFILL = 1, PICK = 2;
    public static final int OPEN = 0, TAKEN = 1, DONE = 2, GONE = 3;

    private static final int SLOTS = 18, AISLE_LENGTH = 6, AISLE_PICKED_BACKWARDS = 1;
    private static final int FIRST_STAND = 20, PLACES = 28;
    private static final int ITEMS = 6, GROUPS = 4, LOTS = 12;
    private static final int NOTICES = 8, ORDERS = 8, LINES = 3, TASKS = 60, ROBOTS = 3;
    private static final int LAST_ZONE = 2, MOST_ROOM = 200, FIRST_ROOM = 100;
    private static final int MOST_SIZE = 9, MOST_WEIGHT = 20, MOST_CASE = 12, LAST_END = 9999;
    private static final int MOST_PIECES = 99, LAST_RANK = 9, MOST_ORDER_TICKS = 999;
    private static final int ALL_ORDERS = 255, MOST_TICKS = 50;
    private static final int BOX_SIZE = 30, BOX_WEIGHT = 50, MOST_BOXES = LINES * MOST_PIECES;
    private static final int SIZE = 0, WEIGHT = 1, PIECES = 2, CONTENTS = 3, BOX_COLUMNS = 4;
    private static final int RECEIVED_PRICE = 2, PUT_PRICE = 3, REFILL_PRICE = 4, PICKED_PRICE = 1;
    private static final int BOX_PRICE = 5, COUNT_PRICE = 6, COME_BACK_PRICE = 2;

    private final Slot[] slots = new Slot[SLOTS];
    private final Item[] items = new Item[ITEMS];
    private final Robot[] robots = new Robot[ROBOTS];
    private final ArrayList<Lot> lots = new ArrayList<>();
    private final ArrayList<Lot> lotsByEnd = new ArrayList<>();
    private final ArrayList<Notice> notices = new ArrayList<>();
    private final ArrayList<Order> orders = new ArrayList<>();
    private final ArrayList<Holding> holdings = new ArrayList<>();
    private final ArrayList<Task> tasks = new ArrayList<>();
    private final Book book = new Book();
    private final Cells receivedPieces = new Cells(NOTICES, LOTS);
    private final Cells sentPieces = new Cells(ORDERS, LOTS);
    private final Cells packedPieces = new Cells(ORDERS, ITEMS);
    // The boxes of one order at a time, made anew for each question.
    private final Cells boxRows = new Cells(MOST_BOXES, BOX_COLUMNS);
    private int boxesFilled;
    private int bars;
    private int now;
    private int undoneStandstills;
    private int billed;

    public Warehouselore() {
        for (int s = 0; s < slots.length; s++) {
            slots[s] = new Slot();
        }
        for (int i = 0; i < items.length; i++) {
            items[i] = new Item(i);
        }
        for (int r = 0; r < robots.length; r++) {
            robots[r] = new Robot();
        }
    }

    // ---- places, items

    public void slot(int slot, int zone, int room)
            throws IndexOutOfBoundsException, IllegalArgumentException, IllegalStateException {
        if (!isSlot(slot)) {
            throw new IndexOutOfBoundsException();
        }
        if (!isWithin(zone, 0, LAST_ZONE) || !isWithin(room, 1, MOST_ROOM)) {
            throw new IllegalArgumentException();
        }
        if (slots[slot].face != null || isUsed(slot)) {
            throw new IllegalStateException();
        }
        slots[slot].zone = zone;
        slots[slot].room = room;
    }

    public void face(int slot, int item, int least, int most)
            throws IndexOutOfBoundsException, IllegalArgumentException, IllegalStateException {
        if (!isSlot(slot) || item != NONE && !isItem(item)) {
            throw new IndexOutOfBoundsException();
        }
        int greatest = item == NONE ? 0 : MOST_PIECES;
        if (!isWithin(least, 0, greatest) || !isWithin(most, least, greatest)) {
            throw new IllegalArgumentException();
        }
        Item faced = isItem(item) ? items[item] : null;
        if (isUsed(slot) || faced != null && faced.zone != slots[slot].zone) {
            throw new IllegalStateException();
        }
        slots[slot].face = faced;
        slots[slot].least = least;
        slots[slot].most = most;
    }

    public void item(int item, int zone, int size, int weight, int group, int perCase)
            throws IndexOutOfBoundsException, IllegalArgumentException, IllegalStateException {
        if (!isItem(item) || !isGroup(group)) {
            throw new IndexOutOfBoundsException();
        }
        if (!isWithin(zone, 0, LAST_ZONE) || !isWithin(size, 1, MOST_SIZE)
                || !isWithin(weight, 1, MOST_WEIGHT) || !isWithin(perCase, 1, MOST_CASE)) {
            throw new IllegalArgumentException();
        }
        if (hasLotOrFace(items[item])) {
            throw new IllegalStateException();
        }
        items[item].zone = zone;
        items[item].size = size;
        items[item].weight = weight;
        items[item].group = group;
        items[item].perCase = perCase;
    }

    public boolean bar(int group, int other, boolean is) throws IndexOutOfBoundsException {
        if (!isGroup(group) || !isGroup(other)) {
            throw new IndexOutOfBoundsException();
        }
        boolean was = isBarred(bars, group, other);
        int both = 1 << group * GROUPS + other | 1 << other * GROUPS + group;
        bars = is ? bars | both : bars & ~both;
        return was;
    }

    public int lot(int item, int end)
            throws IndexOutOfBoundsException, IllegalArgumentException, IllegalStateException {
        if (!isItem(item)) {
            throw new IndexOutOfBoundsException();
        }
        if (!isWithin(end, 0, LAST_END)) {
            throw new IllegalArgumentException();
        }
        if (lots.size() >= LOTS) {
            throw new IllegalStateException();
        }
        Lot made = new Lot(lots.size(), items[item], end);
        int at = 0;
        while (at < lotsByEnd.size() && lotsByEnd.get(at).end <= end) {
            at++;
        }
        lotsByEnd.add(at, made);
        lots.add(made);
        return made.number;
    }

    public int stock(int place, int lot) throws IndexOutOfBoundsException {
        if (!isWithin(place, 0, PLACES - 1) || !isLot(lot)) {
            throw new IndexOutOfBoundsException();
        }
        return book.pieces.at(place, lot);
    }

    public int stockAnew(int place, int lot) throws IndexOutOfBoundsException {
        if (!isWithin(place, 0, PLACES - 1) || !isLot(lot)) {
            throw new IndexOutOfBoundsException();
        }
        return book.madeAnew(place, lot);
    }

    public int free(int place, int lot) throws IndexOutOfBoundsException {
        if (!isWithin(place, 0, DOCK) || !isLot(lot)) {
            throw new IndexOutOfBoundsException();
        }
        return book.freePieces(place, lot);
    }

    public int room(int slot) throws IndexOutOfBoundsException {
        if (!isSlot(slot)) {
            throw new IndexOutOfBoundsException();
        }
        return freeRoom(slot);
    }

    // ---- deliveries, putting away

    public int notice(int item, int pieces)
            throws IndexOutOfBoundsException, IllegalArgumentException, IllegalStateException {
        if (!isItem(item)) {
            throw new IndexOutOfBoundsException();
        }
        if (!isWithin(pieces, 1, MOST_PIECES)) {
            throw new IllegalArgumentException();
        }
        if (notices.size() >= NOTICES) {
            throw new IllegalStateException();
        }
        notices.add(new Notice(items[item], pieces));
        return notices.size() - 1;
    }

    public int receive(int notice, int lot, int pieces)
            throws IndexOutOfBoundsException, IllegalArgumentException, IllegalStateException {
        if (!isNotice(notice) || !isLot(lot)) {
            throw new IndexOutOfBoundsException();
        }
        if (!isWithin(pieces, 1, MOST_PIECES)) {
            throw new IllegalArgumentException();
        }
        if (notices.get(notice).isClosed) {
            throw new IllegalStateException();
        }
        receivedPieces.add(notice, lot, pieces);
        book.move(NONE, DOCK, lots.get(lot), pieces);
        billed += RECEIVED_PRICE * pieces;
        return book.pieces.at(DOCK, lot);
    }

    public int close(int notice) throws IndexOutOfBoundsException, IllegalStateException {
        if (!isNotice(notice)) {
            throw new IndexOutOfBoundsException();
        }
        Notice closed = notices.get(notice);
        if (closed.isClosed) {
            throw new IllegalStateException();
        }
        closed.isClosed = true;
        return piecesThatCame(notice, true) - closed.told;
    }

    public int others(int notice) throws IndexOutOfBoundsException {
        if (!isNotice(notice)) {
            throw new IndexOutOfBoundsException();
        }
        return piecesThatCame(notice, false);
    }

    public int putAway(int lot, int pieces)
            throws IndexOutOfBoundsException, IllegalArgumentException, IllegalStateException {
        if (!isLot(lot)) {
            throw new IndexOutOfBoundsException();
        }
        if (!isWithin(pieces, 1, MOST_PIECES)) {
            throw new IllegalArgumentException();
        }
        if (book.freePieces(DOCK, lot) < pieces || tasks.size() >= TASKS) {
            throw new IllegalStateException();
        }
        Lot put = lots.get(lot);
        int slot = slotToPutInto(put, pieces);
        if (slot != NONE) {
            makeTask(PUT, hold(null, null, DOCK, put, pieces), slot);
        }
        return slot;
    }

    public int refill() {
        int made = 0;
        for (int s = 0; s < slots.length && tasks.size() < TASKS; s++) {
            if (slots[s].face != null && refillFace(s, slots[s])) {
                made++;
            }
        }
        return made;
    }

    // ---- orders

    public int order(int rank, boolean isWhole, int ticks)
            throws IllegalArgumentException, IllegalStateException {
        if (!isWithin(rank, 0, LAST_RANK) || !isWithin(ticks, 0, MOST_ORDER_TICKS)) {
            throw new IllegalArgumentException();
        }
        if (orders.size() >= ORDERS) {
            throw new IllegalStateException();
        }
        orders.add(new Order(orders.size(), rank, isWhole, ticks));
        return orders.size() - 1;
    }

    public int line(int order, int item, int pieces)
            throws IndexOutOfBoundsException, IllegalArgumentException, IllegalStateException {
        if (!isOrder(order) || !isItem(item)) {
            throw new IndexOutOfBoundsException();
        }
        if (!isWithin(pieces, 1, MOST_PIECES)) {
            throw new IllegalArgumentException();
        }
        Order longer = orders.get(order);
        if (longer.lines.size() >= LINES || longer.isSent) {
            throw new IllegalStateException();
        }
        longer.lines.add(new Line(items[item], pieces));
        return longer.lines.size();
    }

    public int allocate() {
        int pieces = 0;
        for (int rank = LAST_RANK; rank >= 0; rank--) {
            for (int o = 0; o < orders.size(); o++) {
                Order order = orders.get(o);
                if (order.rank == rank && !order.isSent) {
                    pieces += allocateOrder(order);
                }
            }
        }
        return pieces;
    }

    public int lacks(int order, int line) throws IndexOutOfBoundsException {
        if (!isOrder(order) || line < 0 || line >= orders.get(order).lines.size()) {
            throw new IndexOutOfBoundsException();
        }
        return orders.get(order).lines.get(line).lacking();
    }

    public int held(int order, int slot, int lot) throws IndexOutOfBoundsException {
        if (!isOrder(order) || !isSlot(slot) || !isLot(lot)) {
            throw new IndexOutOfBoundsException();
        }
        int pieces = 0;
        for (int h = 0; h < holdings.size(); h++) {
            Holding holding = holdings.get(h);
            if (holding.turn() == order && holding.isOf(slot, lots.get(lot))) {
                pieces += holding.pieces;
            }
        }
        return pieces;
    }

    // ---- tasks, robots

    public int wave(int robot, int orders)
            throws IndexOutOfBoundsException, IllegalArgumentException, IllegalStateException {
        if (!isRobot(robot)) {
            throw new IndexOutOfBoundsException();
        }
        if (!isWithin(orders, 1, ALL_ORDERS)) {
            throw new IllegalArgumentException();
        }
        int made = holdingsForWave(orders);
        if (tasks.size() + made > TASKS) {
            throw new IllegalStateException();
        }
        for (int i = 0; i < made; i++) {
            Holding next = nextForWave(orders);
            if (next != null) {
                robots[robot].take(makeTask(PICK, next, FIRST_STAND + next.turn()));
            }
        }
        return made;
    }

    public int give(int robot, int task) throws IndexOutOfBoundsException, IllegalStateException {
        if (!isRobot(robot) || !isTask(task)) {
            throw new IndexOutOfBoundsException();
        }
        if (tasks.get(task).state != OPEN) {
            throw new IllegalStateException();
        }
        robots[robot].take(tasks.get(task));
        return robots[robot].tasksInRow();
    }

    public int pass(int ticks) throws IllegalArgumentException {
        if (!isWithin(ticks, 1, MOST_TICKS)) {
            throw new IllegalArgumentException();
        }
        for (int t = 0; t < ticks; t++) {
            now++;
            for (Robot robot : robots) {
                act(robot);
            }
            undoStandstill();
        }
        return now;
    }

    public int where(int robot) throws IndexOutOfBoundsException {
        if (!isRobot(robot)) {
            throw new IndexOutOfBoundsException();
        }
        Robot asked = robots[robot];
        return asked.aisle == NONE ? NONE : 10 * asked.aisle + asked.position;
    }

    public int doing(int robot) throws IndexOutOfBoundsException {
        if (!isRobot(robot)) {
            throw new IndexOutOfBoundsException();
        }
        Task first = robots[robot].firstTask();
        return first == null ? NONE : first.number;
    }

    public int tasks() {
        return tasks.size();
    }

    public int taskAt(int task) throws IndexOutOfBoundsException {
        if (!isTask(task)) {
            throw new IndexOutOfBoundsException();
        }
        Task asked = tasks.get(task);
        return 1000 * asked.kind + 100 * asked.state + asked.pieces;
    }

    public int standstills() {
        return undoneStandstills;
    }

    // ---- losses, counts

    public int lose(int slot, int lot, int pieces)
            throws IndexOutOfBoundsException, IllegalArgumentException {
        if (!isSlot(slot) || !isLot(lot)) {
            throw new IndexOutOfBoundsException();
        }
        if (!isWithin(pieces, 1, MOST_PIECES)) {
            throw new IllegalArgumentException();
        }
        book.truth.add(slot, lot, -Math.min(pieces, book.truth.at(slot, lot)));
        return book.truth.at(slot, lot);
    }

    public int count(int slot, int lot) throws IndexOutOfBoundsException {
        if (!isSlot(slot) || !isLot(lot)) {
            throw new IndexOutOfBoundsException();
        }
        int there = book.truth.at(slot, lot);
        int told = book.pieces.at(slot, lot);
        boolean isSure = there != told && book.isDoubted(slot, lot, there);
        if (isSure && there < told) {
            shorten(slot, lots.get(lot), null);
        } else if (isSure) {
            book.believeTruth(slot, lots.get(lot));
        } else {
            book.keepDoubt(slot, lot, there);
        }
        billed += COUNT_PRICE;
        return there;
    }

    public int find(int slot, int lot, int pieces)
            throws IndexOutOfBoundsException, IllegalArgumentException {
        if (!isSlot(slot) || !isLot(lot)) {
            throw new IndexOutOfBoundsException();
        }
        if (!isWithin(pieces, 1, MOST_PIECES)) {
            throw new IllegalArgumentException();
        }
        book.truth.add(slot, lot, pieces);
        return book.truth.at(slot, lot);
    }

    // ---- boxes, sending, returns, recalls

    public int boxes(int order) throws IndexOutOfBoundsException {
        if (!isOrder(order)) {
            throw new IndexOutOfBoundsException();
        }
        pack(orders.get(order));
        return boxesFilled;
    }

    public int boxAt(int order, int box) throws IndexOutOfBoundsException {
        if (!isOrder(order)) {
            throw new IndexOutOfBoundsException();
        }
        pack(orders.get(order));
        if (box < 0 || box >= boxesFilled) {
            throw new IndexOutOfBoundsException();
        }
        return 1000 * boxRows.at(box, WEIGHT) + boxRows.at(box, PIECES);
    }

    public int send(int order) throws IndexOutOfBoundsException, IllegalStateException {
        if (!isOrder(order)) {
            throw new IndexOutOfBoundsException();
        }
        Order closed = orders.get(order);
        if (closed.isSent) {
            throw new IllegalStateException();
        }
        letGo(closed, null);
        pack(closed);
        billed += BOX_PRICE * boxesFilled;
        closed.isSent = true;
        closed.barsWhenSent = bars;
        return sendStand(order);
    }

    public int sent(int order, int lot) throws IndexOutOfBoundsException {
        if (!isOrder(order) || !isLot(lot)) {
            throw new IndexOutOfBoundsException();
        }
        return sentPieces.at(order, lot);
    }

    public int received(int notice, int lot) throws IndexOutOfBoundsException {
        if (!isNotice(notice) || !isLot(lot)) {
            throw new IndexOutOfBoundsException();
        }
        return receivedPieces.at(notice, lot);
    }

    public int comeBack(int order, int lot, int pieces)
            throws IndexOutOfBoundsException, IllegalArgumentException, IllegalStateException {
        if (!isOrder(order) || !isLot(lot)) {
            throw new IndexOutOfBoundsException();
        }
        if (!isWithin(pieces, 1, MOST_PIECES)) {
            throw new IllegalArgumentException();
        }
        if (sentPieces.at(order, lot) < pieces) {
            throw new IllegalStateException();
        }
        sentPieces.add(order, lot, -pieces);
        book.move(NONE, QUARANTINE, lots.get(lot), pieces);
        billed += COME_BACK_PRICE * pieces;
        return book.pieces.at(QUARANTINE, lot);
    }

    public int judge(int lot, int pieces, boolean isGood)
            throws IndexOutOfBoundsException, IllegalArgumentException, IllegalStateException {
        if (!isLot(lot)) {
            throw new IndexOutOfBoundsException();
        }
        if (!isWithin(pieces, 1, MOST_PIECES)) {
            throw new IllegalArgumentException();
        }
        if (book.pieces.at(QUARANTINE, lot) < pieces) {
            throw new IllegalStateException();
        }
        book.move(QUARANTINE, isGood ? DOCK : NONE, lots.get(lot), pieces);
        return book.pieces.at(QUARANTINE, lot);
    }

    public int recall(int lot) throws IndexOutOfBoundsException, IllegalStateException {
        if (!isLot(lot)) {
            throw new IndexOutOfBoundsException();
        }
        Lot recalled = lots.get(lot);
        if (recalled.isRecalled) {
            throw new IllegalStateException();
        }
        recalled.isRecalled = true;
        letGo(null, recalled);
        int pieces = 0;
        for (int o = 0; o < orders.size(); o++) {
            pieces += sentPieces.at(o, lot);
        }
        return pieces;
    }

    public int bill() {
        return billed;
    }

    // ---- what there is

    private static boolean isWithin(int number, int least, int most) {
        return number >= least && number <= most;
    }

    private static boolean isSlot(int number) {
        return number >= 0 && number < SLOTS;
    }

    private static boolean isItem(int number) {
        return number >= 0 && number < ITEMS;
    }

    private static boolean isGroup(int number) {
        return number >= 0 && number < GROUPS;
    }

    private static boolean isRobot(int number) {
        return number >= 0 && number < ROBOTS;
    }

    private boolean isLot(int number) {
        return number >= 0 && number < lots.size();
    }

    private boolean isNotice(int number) {
        return number >= 0 && number < notices.size();
    }

    private boolean isOrder(int number) {
        return number >= 0 && number < orders.size();
    }

    private boolean isTask(int number) {
        return number >= 0 && number < tasks.size();
    }

    private static boolean isBarred(int bars, int group, int other) {
        return (bars >> group * GROUPS + other & 1) == 1;
    }

    private boolean hasLotOrFace(Item item) {
        for (int i = 0; i < lots.size(); i++) {
            if (lots.get(i).item == item) {
                return true;
            }
        }
        for (Slot slot : slots) {
            if (slot.face == item) {
                return true;
            }
        }
        return false;
    }

    private boolean isUsed(int slot) {
        for (int i = 0; i < ITEMS; i++) {
            if (book.hasOrAwaits(slot, i)) {
                return true;
            }
        }
        return false;
    }

    private int freeRoom(int slot) {
        if (!isSlot(slot)) {
            return 0;
        }
        int left = slots[slot].room;
        for (Item item : items) {
            left -= item.size * (book.piecesOfItem.at(slot, item.number)
                    + book.awaited.at(slot, item.number));
        }
        return left;
    }

    private int piecesThatCame(int notice, boolean isOfItsItem) {
        if (!isNotice(notice)) {
            return 0;
        }
        Item item = notices.get(notice).item;
        int pieces = 0;
        for (int i = 0; i < lots.size(); i++) {
            boolean isItsItem = lots.get(i).item == item;
            if (isItsItem == isOfItsItem) {
                pieces += receivedPieces.at(notice, i);
            }
        }
        return pieces;
    }

    // ---- putting away, refilling

    private int slotToPutInto(Lot lot, int pieces) {
        int best = NONE;
        int least = 0;
        for (int s = 0; s < slots.length; s++) {
            if (canTake(s, lot.item, pieces)) {
                // What is free there is at most MOST_ROOM, so that what the slot has goes first.
                int merit = strangeness(s, lot) * (MOST_ROOM + 1) + freeRoom(s);
                if (best == NONE || merit < least) {
                    best = s;
                    least = merit;
                }
            }
        }
        return best;
    }

    private int strangeness(int slot, Lot lot) {
        if (book.pieces.at(slot, lot.number) > 0) {
            return 0;
        }
        return book.piecesOfItem.at(slot, lot.item.number) > 0 ? 1 : 2;
    }

    private boolean canTake(int slot, Item item, int pieces) {
        if (!isSlot(slot) || slots[slot].face != null || slots[slot].zone != item.zone
                || freeRoom(slot) < pieces * item.size) {
            return false;
        }
        int position = slot % AISLE_LENGTH;
        return !isBarredIn(slot, item)
                && (position == 0 || !isBarredIn(slot - 1, item))
                && (position == AISLE_LENGTH - 1 || !isBarredIn(slot + 1, item));
    }

    private boolean isBarredIn(int slot, Item item) {
        for (Item other : items) {
            if (other != item && isBarred(bars, other.group, item.group)
                    && book.hasOrAwaits(slot, other.number)) {
                return true;
            }
        }
        return false;
    }

    private boolean refillFace(int number, Slot face) {
        Item item = face.face;
        if (item == null || item.size <= 0 || item.perCase <= 0) {
            return false;
        }
        // A face awaits nothing but refillings: it takes no PUT, and what awaits something is made no face.
        int there = book.piecesOfItem.at(number, item.number) + book.awaited.at(number, item.number);
        if (there >= face.least) {
            return false;
        }
        for (int i = 0; i < lotsByEnd.size(); i++) {
            Lot lot = lotsByEnd.get(i);
            int source = lot.item == item && !lot.isRecalled ? slotToRefillFrom(lot) : NONE;
            if (source != NONE) {
                int most = Math.min(face.most - there, book.freePieces(source, lot.number));
                int cases = Math.min(most, freeRoom(number) / item.size) / item.perCase;
                if (cases > 0) {
                    makeTask(REFILL, hold(null, null, source, lot, cases * item.perCase), number);
                }
                return cases > 0;
            }
        }
        return false;
    }

    private int slotToRefillFrom(Lot lot) {
        for (int s = 0; s < slots.length; s++) {
            if (slots[s].face == null && book.freePieces(s, lot.number) > 0) {
                return s;
            }
        }
        return NONE;
    }

    // ---- holding, letting go

    private Holding hold(Order order, Line line, int place, Lot lot, int pieces) {
        Holding made = new Holding(order, line, place, lot, pieces);
        holdings.add(made);
        book.held.add(place, lot.number, pieces);
        if (line != null) {
            line.held += pieces;
        }
        return made;
    }

    private void release(Holding holding, int pieces) {
        holding.pieces -= pieces;
        book.held.add(holding.place, holding.lot.number, -pieces);
        if (holding.line != null) {
            holding.line.held -= pieces;
        }
        if (holding.task != null && holding.task.kind != PICK) {
            book.awaited.add(holding.task.to, holding.lot.item.number, -pieces);
        }
    }

    private void dropEmptyHoldings() {
        for (int h = holdings.size() - 1; h >= 0; h--) {
            if (holdings.get(h).pieces <= 0) {
                holdings.remove(h);
            }
        }
    }

    /** Lets go what is held for an order, or for all orders of a lot; the other one is null. */
    private void letGo(Order order, Lot lot) {
        for (int h = 0; h < holdings.size(); h++) {
            Holding holding = holdings.get(h);
            if (holding.order != null && (holding.order == order || holding.lot == lot)) {
                release(holding, holding.pieces);
                if (holding.task != null) {
                    holding.task.state = GONE;
                }
            }
        }
        dropEmptyHoldings();
    }

    private void shorten(int slot, Lot lot, Holding first) {
        book.believeTruth(slot, lot);
        int left = book.pieces.at(slot, lot.number);
        if (first != null) {
            left -= cut(first, left);
        }
        for (int turn = 0; turn <= ORDERS; turn++) {
            for (int h = 0; h < holdings.size(); h++) {
                Holding holding = holdings.get(h);
                if (holding != first && holding.turn() == turn && holding.isOf(slot, lot)) {
                    left -= cut(holding, left);
                }
            }
        }
        dropEmptyHoldings();
    }

    private int cut(Holding holding, int left) {
        int kept = Math.min(holding.pieces, left);
        release(holding, holding.pieces - kept);
        if (holding.task != null) {
            holding.task.pieces = kept;
            if (kept == 0) {
                holding.task.state = GONE;
            }
        }
        return kept;
    }

    // ---- allocating

    private int allocateOrder(Order order) {
        if (order.isWhole && !canBeWhole(order)) {
            return 0;
        }
        int pieces = 0;
        for (int l = 0; l < order.lines.size(); l++) {
            pieces += allocateLine(order, order.lines.get(l));
        }
        return pieces;
    }

    // Lines of one item draw on the same pieces, whichever is first: so sums tell it without holding.
    private boolean canBeWhole(Order order) {
        for (Item item : items) {
            int wanted = 0;
            for (int l = 0; l < order.lines.size(); l++) {
                wanted += order.lines.get(l).item == item ? order.lines.get(l).lacking() : 0;
            }
            if (wanted > piecesGoodFor(order, item)) {
                return false;
            }
        }
        return true;
    }

    private int piecesGoodFor(Order order, Item item) {
        int pieces = 0;
        for (int i = 0; i < lots.size(); i++) {
            if (isGoodFor(order, item, lots.get(i))) {
                for (int s = 0; s < SLOTS; s++) {
                    pieces += book.freePieces(s, i);
                }
            }
        }
        return pieces;
    }

    private boolean isGoodFor(Order order, Item item, Lot lot) {
        return lot.item == item && !lot.isRecalled && lot.end >= now + order.ticks;
    }

    private int allocateLine(Order order, Line line) {
        int before = line.lacking();
        for (int i = 0; i < lotsByEnd.size(); i++) {
            if (isGoodFor(order, line.item, lotsByEnd.get(i))) {
                holdInSlots(order, line, lotsByEnd.get(i), true);
                holdInSlots(order, line, lotsByEnd.get(i), false);
            }
        }
        return before - line.lacking();
    }

    private void holdInSlots(Order order, Line line, Lot lot, boolean isFace) {
        for (int s = 0; s < slots.length && line.lacking() > 0; s++) {
            int pieces = Math.min(line.lacking(), book.freePieces(s, lot.number));
            if ((slots[s].face != null) == isFace && pieces > 0) {
                hold(order, line, s, lot, pieces);
            }
        }
    }

    // ---- tasks, waves

    private Task makeTask(int kind, Holding holding, int to) {
        Task made = new Task(tasks.size(), kind, holding, to);
        tasks.add(made);
        holding.task = made;
        if (kind != PICK) {
            book.awaited.add(to, holding.lot.item.number, holding.pieces);
        }
        return made;
    }

    private static boolean isForWave(Holding holding, int orders) {
        return holding.order != null && holding.task == null && (orders >> holding.turn() & 1) == 1;
    }

    private int holdingsForWave(int orders) {
        int number = 0;
        for (int h = 0; h < holdings.size(); h++) {
            if (isForWave(holdings.get(h), orders)) {
                number++;
            }
        }
        return number;
    }

    private Holding nextForWave(int orders) {
        Holding best = null;
        int least = 0;
        for (int h = 0; h < holdings.size(); h++) {
            Holding holding = holdings.get(h);
            int turn = turnInWave(holding);
            if (isForWave(holding, orders) && (best == null || turn < least)) {
                best = holding;
                least = turn;
            }
        }
        return best;
    }

    private static int turnInWave(Holding holding) {
        int aisle = holding.place / AISLE_LENGTH;
        int position = holding.place % AISLE_LENGTH;
        int way = aisle == AISLE_PICKED_BACKWARDS ? AISLE_LENGTH - 1 - position : position;
        int turn = aisle * AISLE_LENGTH + way;
        return (turn * LOTS + holding.lot.number) * (ORDERS + 1) + holding.turn();
    }

    // ---- robots

    private void act(Robot robot) {
        robot.waitsFor = NONE;
        Task task = robot.firstTask();
        if (task == null) {
            robot.goToFront();
            return;
        }
        int station = task.nextStation();
        int aisle = station == NONE ? NONE : station / AISLE_LENGTH;
        int position = station % AISLE_LENGTH;
        if (station == NONE && robot.aisle == NONE) {
            task.isLoaded = true;
        } else if (station == NONE) {
            robot.goToFront();
        } else if (robot.aisle == aisle && robot.position == position) {
            doStationInSlot(task);
        } else if (robot.aisle == aisle) {
            robot.position += robot.position < position ? 1 : -1;
        } else if (robotIn(aisle) == null) {
            robot.aisle = aisle;
            robot.position = 0;
        } else {
            robot.waitsFor = aisle;
        }
    }

    private Robot robotIn(int aisle) {
        for (Robot robot : robots) {
            if (robot.aisle == aisle) {
                return robot;
            }
        }
        return null;
    }

    private void doStationInSlot(Task task) {
        Holding holding = task.holding;
        if (!task.isLoaded && book.truth.at(holding.place, holding.lot.number) < task.pieces) {
            shorten(holding.place, holding.lot, holding);
        }
        if (task.kind == REFILL && !task.isLoaded) {
            task.isLoaded = true;
        } else {
            finish(task);
        }
    }

    private void finish(Task task) {
        Holding holding = task.holding;
        book.move(holding.place, task.to, holding.lot, task.pieces);
        release(holding, holding.pieces);
        dropEmptyHoldings();
        task.state = DONE;
        if (task.kind == PUT) {
            billed += PUT_PRICE;
        } else if (task.kind == REFILL) {
            billed += REFILL_PRICE;
        } else {
            billed += PICKED_PRICE * task.pieces;
            if (holding.line != null) {
                holding.line.picked += task.pieces;
            }
        }
    }

    private void undoStandstill() {
        for (int r = robots.length - 1; r >= 0; r--) {
            if (isInRing(robots[r])) {
                robots[r].goToFront();
                undoneStandstills++;
                return;
            }
        }
    }

    private boolean isInRing(Robot first) {
        Robot robot = first;
        for (int i = 0; i < robots.length; i++) {
            robot = robot.waitsFor == NONE ? null : robotIn(robot.waitsFor);
            if (robot == null || robot == first) {
                return robot != null;
            }
        }
        return false;
    }

    // ---- boxes, sending

    private void pack(Order order) {
        int barsOfThen = order.isSent ? order.barsWhenSent : bars;
        boxesFilled = 0;
        for (int size = MOST_SIZE; size > 0; size--) {
            for (Item item : items) {
                if (item.size == size) {
                    fillBoxes(item, piecesToPack(order, item), barsOfThen);
                }
            }
        }
    }

    // Pieces of one item are alike, and boxes get fuller only: what has not fitted once never does.
    private void fillBoxes(Item item, int pieces, int barsOfThen) {
        int left = pieces;
        for (int box = 0; box < MOST_BOXES && left > 0; box++) {
            if (box == boxesFilled) {
                openBox();
                putIntoBox(box, item);
                left--;
            }
            while (left > 0 && fitsIntoBox(box, item, barsOfThen)) {
                putIntoBox(box, item);
                left--;
            }
        }
    }

    private void openBox() {
        for (int column = 0; column < BOX_COLUMNS; column++) {
            boxRows.put(boxesFilled, column, 0);
        }
        boxesFilled++;
    }

    private void putIntoBox(int box, Item item) {
        boxRows.add(box, SIZE, item.size);
        boxRows.add(box, WEIGHT, item.weight);
        boxRows.add(box, PIECES, 1);
        boxRows.put(box, CONTENTS, boxRows.at(box, CONTENTS) | 1 << item.number);
    }

    private boolean fitsIntoBox(int box, Item item, int barsOfThen) {
        if (boxRows.at(box, SIZE) + item.size > BOX_SIZE
                || boxRows.at(box, WEIGHT) + item.weight > BOX_WEIGHT) {
            return false;
        }
        for (Item other : items) {
            boolean isInside = (boxRows.at(box, CONTENTS) >> other.number & 1) == 1;
            if (isInside && other != item && isBarred(barsOfThen, other.group, item.group)) {
                return false;
            }
        }
        return true;
    }

    // What was sent is packed again by the pieces and bars of then, as boxes follow from these.
    private int piecesToPack(Order order, Item item) {
        if (order.isSent) {
            return packedPieces.at(order.number, item.number);
        }
        return book.piecesOfItem.at(FIRST_STAND + order.number, item.number);
    }

    private int sendStand(int order) {
        int sum = 0;
        for (int i = 0; i < lots.size(); i++) {
            Lot lot = lots.get(i);
            int pieces = book.pieces.at(FIRST_STAND + order, i);
            packedPieces.add(order, lot.item.number, pieces);
            sentPieces.add(order, i, pieces);
            book.move(FIRST_STAND + order, NONE, lot, pieces);
            sum += pieces;
        }
        return sum;
    }

    /** A table whose indexes are looked at here: outside of it there is 0, and nothing is kept. */
    private static final class Cells {
        private final int width;
        private final int[] cells;

        Cells(int rows, int width) {
            this.width = width;
            this.cells = new int[Math.max(0, rows * width)];
        }

        int at(int row, int column) {
            int index = row * width + column;
            boolean isIn = column >= 0 && column < width && index >= 0 && index < cells.length;
            return isIn ? cells[index] : 0;
        }

        void put(int row, int column, int number) {
            int index = row * width + column;
            if (column >= 0 && column < width && index >= 0 && index < cells.length) {
                cells[index] = number;
            }
        }

        void add(int row, int column, int number) {
            int index = row * width + column;
            if (column >= 0 && column < width && index >= 0 && index < cells.length) {
                cells[index] += number;
            }
        }
    }

    private static final class Slot {
        int zone;
        int room = FIRST_ROOM;
        Item face;
        int least;
        int most;
    }

    private static final class Item {
        final int number;
        int zone;
        int size = 1;
        int weight = 1;
        int group;
        int perCase = 1;

        Item(int number) {
            this.number = number;
        }
    }

    private static final class Lot {
        final int number;
        final Item item;
        final int end;
        boolean isRecalled;

        Lot(int number, Item item, int end) {
            this.number = number;
            this.item = item;
            this.end = end;
        }
    }

    private static final class Notice {
        final Item item;
        final int told;
        boolean isClosed;

        Notice(Item item, int told) {
            this.item = item;
            this.told = told;
        }
    }

    private static final class Line {
        final Item item;
        final int wanted;
        int held;
        int picked;

        Line(Item item, int wanted) {
            this.item = item;
            this.wanted = wanted;
        }

        int lacking() {
            return wanted - held - picked;
        }
    }

    private static final class Order {
        final int number;
        final int rank;
        final boolean isWhole;
        final int ticks;
        final ArrayList<Line> lines = new ArrayList<>();
        boolean isSent;
        int barsWhenSent;

        Order(int number, int rank, boolean isWhole, int ticks) {
            this.number = number;
            this.rank = rank;
            this.isWhole = isWhole;
            this.ticks = ticks;
        }
    }

    /** Pieces held in a place: for a line of an order, or, without one, by a PUT or a REFILL. */
    private static final class Holding {
        final Order order;
        final Line line;
        final int place;
        final Lot lot;
        int pieces;
        Task task;

        Holding(Order order, Line line, int place, Lot lot, int pieces) {
            this.order = order;
            this.line = line;
            this.place = place;
            this.lot = lot;
            this.pieces = pieces;
        }

        boolean isOf(int place, Lot lot) {
            return this.place == place && this.lot == lot;
        }

        /** The number of its order; behind all of these, where there is none. */
        int turn() {
            return order == null ? ORDERS : order.number;
        }
    }

    private static final class Task {
        final int number;
        final int kind;
        final Holding holding;
        final int to;
        int pieces;
        int state = OPEN;
        boolean isLoaded;

        Task(int number, int kind, Holding holding, int to) {
            this.number = number;
            this.kind = kind;
            this.holding = holding;
            this.to = to;
            this.pieces = holding.pieces;
        }

        /** The slot of the next station; NONE for the front. */
        int nextStation() {
            if (isLoaded) {
                return to;
            }
            return kind == PUT ? NONE : holding.place;
        }
    }

    private static final class Robot {
        // Tasks that have ended stay in here until they come first: rows are short, and looked at seldom.
        final ArrayList<Task> row = new ArrayList<>();
        int aisle = NONE;
        int position;
        int waitsFor = NONE;

        void take(Task task) {
            task.state = TAKEN;
            row.add(task);
        }

        Task firstTask() {
            while (!row.isEmpty() && row.get(0).state != TAKEN) {
                row.remove(0);
            }
            return row.isEmpty() ? null : row.get(0);
        }

        int tasksInRow() {
            int number = 0;
            for (int i = 0; i < row.size(); i++) {
                if (row.get(i).state == TAKEN) {
                    number++;
                }
            }
            return number;
        }

        void goToFront() {
            aisle = NONE;
            position = 0;
        }
    }

    /** What there is in each place, by the book and in truth, and what is held of it. NONE is outside. */
    private static final class Book {
        // 512 calls make fewer: one each, 12 for each order that is sent, 2 for each task.
        private static final int MOST_MOVES = 1024, FIRST_MOVES = 32, MOVE_LENGTH = 4;

        final Cells pieces = new Cells(PLACES, LOTS);
        final Cells piecesOfItem = new Cells(PLACES, ITEMS);
        final Cells truth = new Cells(PLACES, LOTS);
        final Cells held = new Cells(PLACES, LOTS);
        final Cells awaited = new Cells(SLOTS, ITEMS);
        // What was counted, and 1, so that 0 is no doubt.
        private final Cells doubts = new Cells(SLOTS, LOTS);
        private int[] moves = new int[FIRST_MOVES * MOVE_LENGTH];
        private int movesLength;

        void move(int from, int to, Lot lot, int number) {
            int real = from == NONE ? number : Math.min(number, truth.at(from, lot.number));
            truth.add(from, lot.number, -real);
            truth.add(to, lot.number, real);
            write(from, to, lot, number);
        }

        void believeTruth(int slot, Lot lot) {
            write(NONE, slot, lot, truth.at(slot, lot.number) - pieces.at(slot, lot.number));
        }

        private void write(int from, int to, Lot lot, int number) {
            if (number == 0) {
                return;
            }
            pieces.add(from, lot.number, -number);
            pieces.add(to, lot.number, number);
            piecesOfItem.add(from, lot.item.number, -number);
            piecesOfItem.add(to, lot.item.number, number);
            // A doubt is about the number that the book had: with another one it is none any more.
            doubts.put(from, lot.number, 0);
            doubts.put(to, lot.number, 0);
            note(from, to, lot.number, number);
        }

        private void note(int from, int to, int lot, int number) {
            int end = movesLength + MOVE_LENGTH;
            if (end > moves.length && moves.length < MOST_MOVES * MOVE_LENGTH) {
                moves = Arrays.copyOf(moves, 2 * moves.length);
            }
            if (movesLength >= 0 && end <= moves.length) {
                moves[movesLength] = from;
                moves[movesLength + 1] = to;
                moves[movesLength + 2] = lot;
                moves[movesLength + 3] = number;
                movesLength = end;
            }
        }

        int madeAnew(int place, int lot) {
            int sum = 0;
            for (int m = 0; m + MOVE_LENGTH <= movesLength && m + MOVE_LENGTH <= moves.length; m += MOVE_LENGTH) {
                if (moves[m + 2] == lot) {
                    sum -= moves[m] == place ? moves[m + 3] : 0;
                    sum += moves[m + 1] == place ? moves[m + 3] : 0;
                }
            }
            return sum;
        }

        int freePieces(int place, int lot) {
            return pieces.at(place, lot) - held.at(place, lot);
        }

        boolean hasOrAwaits(int slot, int item) {
            return piecesOfItem.at(slot, item) > 0 || awaited.at(slot, item) > 0;
        }

        boolean isDoubted(int slot, int lot, int number) {
            return doubts.at(slot, lot) == number + 1;
        }

        void keepDoubt(int slot, int lot, int number) {
            doubts.put(slot, lot, number == pieces.at(slot, lot) ? 0 : number + 1);
        }
    }
}
