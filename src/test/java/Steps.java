/** Steps that many tests take before what they look at. */
final class Steps {
    private Steps() { }

    /** Lets the book have more pieces in a slot, without any task: found, and believed with the second count. */
    static void lay(Warehouselore x, int slot, int lot, int pieces) {
        x.find(slot, lot, pieces);
        x.count(slot, lot);
        x.count(slot, lot);
    }

    /** A new object with lots 0 to 5 of the items 0 to 5, good until 9999, and the notice 0. */
    static Warehouselore withLots() {
        Warehouselore x = new Warehouselore();
        for (int i = 0; i < 6; i++) x.lot(i, 9999);
        x.notice(0, 50);
        return x;
    }

    /** An order, not whole, of the rank 5, with one line. */
    static int order(Warehouselore x, int item, int pieces) {
        int order = x.order(5, false, 0);
        x.line(order, item, pieces);
        return order;
    }

    /** Lets a robot do all that is in its row, and go to the front. */
    static void work(Warehouselore x) {
        for (int k = 0; k < 4; k++) x.pass(50);
    }

    /** Receives pieces, puts them away with the robot, and tells the slot. */
    static int put(Warehouselore x, int robot, int lot, int pieces) {
        x.receive(0, lot, pieces);
        int slot = x.putAway(lot, pieces);
        x.give(robot, x.tasks() - 1);
        return slot;
    }

    /** Makes all slots but those that are named too small for anything of the size 2 or more. */
    static void onlyRoomIn(Warehouselore x, int... slots) {
        for (int s = 0; s < 18; s++) {
            boolean isNamed = false;
            for (int named : slots) isNamed |= named == s;
            if (!isNamed) x.slot(s, 0, 1);
        }
    }
}
