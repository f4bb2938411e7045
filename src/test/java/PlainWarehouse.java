import java.util.ArrayList;
import java.util.Comparator;
import java.util.LinkedList;
import java.util.List;

/**
 * The document told a second time, as literally and as slowly as it reads, for RandomRunsTest:
 * sums are made from lists, boxes are packed piece by piece, whole orders are held and given back.
 * It shares nothing with the class that it is compared with.
 */
final class PlainWarehouse {
    static final class Task {
        int kind, state, pieces, lot, from, to, order, line, robot = -1;
        boolean loaded;
        Hold hold;
        boolean lives() { return state == 0 || state == 1; }
    }

    static final class Hold {
        int order, line, slot, lot, pieces;
        Task task;
    }

    static final class Order {
        int rank, ticks;
        boolean whole, sent;
        List<int[]> lines = new ArrayList<>(); // item, pieces, picked
        List<int[]> boxes; // size, weight, pieces, set of items
        int[] gone = new int[12];
    }

    int[] zone = new int[18], room = new int[18], face = new int[18], least = new int[18], most = new int[18];
    int[][] item = new int[6][]; // zone, size, weight, group, case
    boolean[][] barred = new boolean[4][4];
    List<int[]> lots = new ArrayList<>(); // item, end, recalled
    int[][] stock = new int[28][12];
    int[][] truth = new int[18][12];
    int[][] doubt = new int[18][12];
    List<int[]> moves = new ArrayList<>();
    List<int[]> notices = new ArrayList<>(); // item, told, closed
    int[][] got = new int[8][12];
    List<Order> orders = new ArrayList<>();
    List<Hold> holds = new ArrayList<>();
    List<Task> all = new ArrayList<>();
    List<LinkedList<Task>> rows = new ArrayList<>();
    int[] aisle = {-1, -1, -1}, position = new int[3], waits = new int[3];
    int now, stills, bill, ringsOfThree;

    PlainWarehouse() {
        for (int s = 0; s < 18; s++) { room[s] = 100; face[s] = -1; }
        for (int[] d : doubt) java.util.Arrays.fill(d, -1);
        for (int i = 0; i < 6; i++) item[i] = new int[] {0, 1, 1, 0, 1};
        for (int r = 0; r < 3; r++) rows.add(new LinkedList<>());
    }

    static void index(boolean ok) { if (!ok) throw new IndexOutOfBoundsException(); }
    static void argument(boolean ok) { if (!ok) throw new IllegalArgumentException(); }
    static void state(boolean ok) { if (!ok) throw new IllegalStateException(); }
    static boolean in(int x, int a, int b) { return a <= x && x <= b; }
    boolean isLot(int l) { return in(l, 0, lots.size() - 1); }
    boolean isOrder(int o) { return in(o, 0, orders.size() - 1); }
    boolean isTask(int t) { return in(t, 0, all.size() - 1); }

    // ---- places, items

    int bookOf(int place, int it) {
        int n = 0;
        for (int l = 0; l < lots.size(); l++) if (lots.get(l)[0] == it) n += stock[place][l];
        return n;
    }

    int coming(int slot, int it) {
        int n = 0;
        for (Task t : all) if (t.kind != 2 && t.lives() && t.to == slot && lots.get(t.lot)[0] == it) n += t.pieces;
        return n;
    }

    boolean used(int slot) {
        for (int i = 0; i < 6; i++) if (bookOf(slot, i) + coming(slot, i) > 0) return true;
        return false;
    }

    public void slot(int s, int z, int r) {
        index(in(s, 0, 17)); argument(in(z, 0, 2) && in(r, 1, 200)); state(!used(s) && face[s] == -1);
        zone[s] = z; room[s] = r;
    }

    public void face(int s, int i, int l, int m) {
        index(in(s, 0, 17) && in(i, -1, 5));
        if (i == -1) argument(l == 0 && m == 0); else argument(in(l, 0, 99) && in(m, l, 99));
        state(!used(s)); state(i == -1 || item[i][0] == zone[s]);
        face[s] = i; least[s] = l; most[s] = m;
    }

    public void item(int i, int z, int size, int weight, int group, int per) {
        index(in(i, 0, 5) && in(group, 0, 3));
        argument(in(z, 0, 2) && in(size, 1, 9) && in(weight, 1, 20) && in(per, 1, 12));
        for (int[] l : lots) state(l[0] != i);
        for (int f : face) state(f != i);
        item[i] = new int[] {z, size, weight, group, per};
    }

    public boolean bar(int g, int o, boolean is) {
        index(in(g, 0, 3) && in(o, 0, 3));
        boolean was = barred[g][o];
        barred[g][o] = is; barred[o][g] = is;
        return was;
    }

    public int lot(int i, int end) {
        index(in(i, 0, 5)); argument(in(end, 0, 9999)); state(lots.size() < 12);
        lots.add(new int[] {i, end, 0});
        return lots.size() - 1;
    }

    public int stock(int p, int l) { index(in(p, 0, 27) && isLot(l)); return stock[p][l]; }

    public int stockAnew(int p, int l) {
        index(in(p, 0, 27) && isLot(l));
        int n = 0;
        for (int[] m : moves) {
            if (m[2] != l) continue;
            if (m[0] == p) n -= m[3];
            if (m[1] == p) n += m[3];
        }
        return n;
    }

    int unheld(int p, int l) {
        int n = stock[p][l];
        for (Hold h : holds) if (h.slot == p && h.lot == l) n -= h.pieces;
        for (Task t : all) if (t.kind != 2 && t.lives() && t.from == p && t.lot == l) n -= t.pieces;
        return n;
    }

    public int free(int p, int l) { index(in(p, 0, 18) && isLot(l)); return unheld(p, l); }

    int roomIn(int s) {
        int n = room[s];
        for (int i = 0; i < 6; i++) n -= (bookOf(s, i) + coming(s, i)) * item[i][1];
        return n;
    }

    public int room(int s) { index(in(s, 0, 17)); return roomIn(s); }

    void move(int from, int to, int lot, int n) {
        if (n == 0) return;
        moves.add(new int[] {from, to, lot, n});
        for (int p : new int[] {from, to}) if (in(p, 0, 17)) doubt[p][lot] = -1;
        if (from >= 0) stock[from][lot] -= n;
        if (to >= 0) stock[to][lot] += n;
    }

    // ---- deliveries, putting away

    public int notice(int i, int n) {
        index(in(i, 0, 5)); argument(in(n, 1, 99)); state(notices.size() < 8);
        notices.add(new int[] {i, n, 0});
        return notices.size() - 1;
    }

    public int receive(int no, int l, int n) {
        index(in(no, 0, notices.size() - 1) && isLot(l)); argument(in(n, 1, 99)); state(notices.get(no)[2] == 0);
        got[no][l] += n;
        move(-1, 18, l, n);
        bill += 2 * n;
        return stock[18][l];
    }

    int came(int no, boolean own) {
        int n = 0;
        for (int l = 0; l < lots.size(); l++) if ((lots.get(l)[0] == notices.get(no)[0]) == own) n += got[no][l];
        return n;
    }

    public int close(int no) {
        index(in(no, 0, notices.size() - 1)); state(notices.get(no)[2] == 0);
        notices.get(no)[2] = 1;
        return came(no, true) - notices.get(no)[1];
    }

    public int others(int no) { index(in(no, 0, notices.size() - 1)); return came(no, false); }

    public int received(int no, int l) {
        index(in(no, 0, notices.size() - 1) && isLot(l));
        return got[no][l];
    }

    boolean clash(int s, int it) {
        for (int t = s - 1; t <= s + 1; t++) {
            if (t < 0 || t > 17 || t / 6 != s / 6) continue;
            for (int i = 0; i < 6; i++)
                if (i != it && barred[item[i][3]][item[it][3]] && bookOf(t, i) + coming(t, i) > 0) return true;
        }
        return false;
    }

    public int putAway(int l, int n) {
        index(isLot(l)); argument(in(n, 1, 99)); state(unheld(18, l) >= n); state(all.size() < 60);
        int it = lots.get(l)[0];
        List<int[]> found = new ArrayList<>();
        for (int s = 0; s < 18; s++) {
            if (face[s] != -1 || zone[s] != item[it][0] || roomIn(s) < n * item[it][1] || clash(s, it)) continue;
            found.add(new int[] {stock[s][l] > 0 ? 0 : bookOf(s, it) > 0 ? 1 : 2, roomIn(s), s});
        }
        if (found.isEmpty()) return -1;
        found.sort(Comparator.<int[]>comparingInt(a -> a[0]).thenComparingInt(a -> a[1]).thenComparingInt(a -> a[2]));
        task(0, l, 18, found.get(0)[2], n);
        return found.get(0)[2];
    }

    Task task(int kind, int lot, int from, int to, int n) {
        Task t = new Task();
        t.kind = kind; t.lot = lot; t.from = from; t.to = to; t.pieces = n;
        all.add(t);
        return t;
    }

    public int refill() {
        int made = 0;
        for (int s = 0; s < 18; s++) {
            int it = face[s];
            if (it == -1) continue;
            int there = bookOf(s, it);
            for (Task t : all) if (t.kind == 1 && t.lives() && t.to == s) there += t.pieces;
            if (there >= least[s]) continue;
            List<int[]> sources = new ArrayList<>();
            for (int l = 0; l < lots.size(); l++)
                for (int f = 0; f < 18; f++)
                    if (lots.get(l)[0] == it && lots.get(l)[2] == 0 && face[f] == -1 && unheld(f, l) > 0)
                        sources.add(new int[] {lots.get(l)[1], l, f});
            if (sources.isEmpty()) continue;
            sources.sort(Comparator.<int[]>comparingInt(a -> a[0]).thenComparingInt(a -> a[1]).thenComparingInt(a -> a[2]));
            int[] from = sources.get(0);
            int n = 0;
            while (n + item[it][4] <= most[s] - there && n + item[it][4] <= unheld(from[2], from[1])
                    && (n + item[it][4]) * item[it][1] <= roomIn(s)) n += item[it][4];
            if (n == 0 || all.size() == 60) continue;
            task(1, from[1], from[2], s, n);
            made++;
        }
        return made;
    }

    // ---- orders

    public int order(int rank, boolean whole, int ticks) {
        argument(in(rank, 0, 9) && in(ticks, 0, 999)); state(orders.size() < 8);
        Order o = new Order();
        o.rank = rank; o.whole = whole; o.ticks = ticks;
        orders.add(o);
        return orders.size() - 1;
    }

    public int line(int o, int i, int n) {
        index(isOrder(o) && in(i, 0, 5)); argument(in(n, 1, 99));
        state(orders.get(o).lines.size() < 3 && !orders.get(o).sent);
        orders.get(o).lines.add(new int[] {i, n, 0});
        return orders.get(o).lines.size();
    }

    int lacking(int o, int k) {
        int[] line = orders.get(o).lines.get(k);
        int n = line[1] - line[2];
        for (Hold h : holds) if (h.order == o && h.line == k) n -= h.pieces;
        return n;
    }

    public int allocate() {
        List<Integer> turn = new ArrayList<>();
        for (int o = 0; o < orders.size(); o++) if (!orders.get(o).sent) turn.add(o);
        turn.sort(Comparator.comparingInt(o -> -orders.get(o).rank));
        int sum = 0;
        for (int o : turn) sum += allocate(o);
        return sum;
    }

    int allocate(int o) {
        Order order = orders.get(o);
        List<Hold> mine = new ArrayList<>();
        boolean lack = false;
        for (int k = 0; k < order.lines.size(); k++) {
            List<int[]> goes = new ArrayList<>();
            for (int l = 0; l < lots.size(); l++) {
                int[] lot = lots.get(l);
                if (lot[0] != order.lines.get(k)[0] || lot[2] == 1 || lot[1] < now + order.ticks) continue;
                for (int s = 0; s < 18; s++) goes.add(new int[] {lot[1], l, face[s] == -1 ? 1 : 0, s});
            }
            goes.sort(Comparator.<int[]>comparingInt(a -> a[0]).thenComparingInt(a -> a[1])
                    .thenComparingInt(a -> a[2]).thenComparingInt(a -> a[3]));
            for (int[] g : goes) {
                int n = Math.min(lacking(o, k), unheld(g[3], g[1]));
                if (n <= 0) continue;
                Hold h = new Hold();
                h.order = o; h.line = k; h.slot = g[3]; h.lot = g[1]; h.pieces = n;
                holds.add(h);
                mine.add(h);
            }
            lack |= lacking(o, k) > 0;
        }
        if (order.whole && lack) {
            holds.removeAll(mine);
            return 0;
        }
        int sum = 0;
        for (Hold h : mine) sum += h.pieces;
        return sum;
    }

    public int lacks(int o, int k) {
        index(isOrder(o) && in(k, 0, orders.get(o).lines.size() - 1));
        return lacking(o, k);
    }

    public int held(int o, int s, int l) {
        index(isOrder(o) && in(s, 0, 17) && isLot(l));
        int n = 0;
        for (Hold h : holds) if (h.order == o && h.slot == s && h.lot == l) n += h.pieces;
        return n;
    }

    // ---- tasks, robots

    public int wave(int r, int set) {
        index(in(r, 0, 2)); argument(in(set, 1, 255));
        List<Hold> taken = new ArrayList<>();
        for (Hold h : holds) if (h.task == null && (set & 1 << h.order) != 0) taken.add(h);
        state(all.size() + taken.size() <= 60);
        taken.sort(Comparator.<Hold>comparingInt(h -> h.slot / 6)
                .thenComparingInt(h -> h.slot / 6 == 1 ? -h.slot : h.slot)
                .thenComparingInt(h -> h.lot).thenComparingInt(h -> h.order));
        for (Hold h : taken) {
            Task t = task(2, h.lot, h.slot, 20 + h.order, h.pieces);
            t.order = h.order; t.line = h.line; t.hold = h; t.state = 1; t.robot = r;
            h.task = t;
            rows.get(r).add(t);
        }
        return taken.size();
    }

    public int give(int r, int t) {
        index(in(r, 0, 2) && isTask(t)); state(all.get(t).state == 0);
        all.get(t).state = 1;
        all.get(t).robot = r;
        rows.get(r).add(all.get(t));
        return rows.get(r).size();
    }

    void end(Task t, int state) {
        t.state = state;
        if (t.robot >= 0) rows.get(t.robot).remove(t);
        if (t.hold != null) holds.remove(t.hold);
    }

    public int pass(int ticks) {
        argument(in(ticks, 1, 50));
        for (int k = 0; k < ticks; k++) {
            now++;
            for (int r = 0; r < 3; r++) act(r);
            standstill();
        }
        return now;
    }

    void act(int r) {
        waits[r] = -1;
        if (rows.get(r).isEmpty()) { aisle[r] = -1; return; }
        Task t = rows.get(r).getFirst();
        if (t.kind == 0 && !t.loaded) {
            if (aisle[r] == -1) t.loaded = true; else aisle[r] = -1;
            return;
        }
        int s = t.kind == 2 || t.kind == 1 && !t.loaded ? t.from : t.to;
        if (aisle[r] == s / 6) {
            if (position[r] < s % 6) position[r]++;
            else if (position[r] > s % 6) position[r]--;
            else station(t);
            return;
        }
        for (int o = 0; o < 3; o++) if (o != r && aisle[o] == s / 6) { waits[r] = s / 6; return; }
        aisle[r] = s / 6;
        position[r] = 0;
    }

    void station(Task t) {
        if (t.kind == 2) {
            if (truth[t.from][t.lot] < t.pieces) shorts(t.from, t.lot, t);
            move(t.from, t.to, t.lot, t.pieces);
            truth[t.from][t.lot] -= t.pieces;
            orders.get(t.order).lines.get(t.line)[2] += t.pieces;
            bill += t.pieces;
            end(t, 2);
        } else if (t.kind == 1 && !t.loaded) {
            if (truth[t.from][t.lot] < t.pieces) shorts(t.from, t.lot, t);
            t.loaded = true;
            if (t.pieces == 0) end(t, 3);
        } else {
            int real = t.kind == 0 ? t.pieces : Math.min(t.pieces, truth[t.from][t.lot]);
            move(t.from, t.to, t.lot, t.pieces);
            if (t.kind == 1) truth[t.from][t.lot] -= real;
            truth[t.to][t.lot] += real;
            bill += t.kind == 0 ? 3 : 4;
            end(t, 2);
        }
    }

    void shorts(int s, int l, Task of) {
        int left = truth[s][l];
        move(s, -1, l, stock[s][l] - left);
        if (of != null) {
            of.pieces = Math.min(of.pieces, left);
            left -= of.pieces;
            if (of.hold != null) of.hold.pieces = of.pieces;
        }
        for (int o = 0; o < 8; o++) {
            for (Hold h : new ArrayList<>(holds)) {
                if (h.order != o || h.slot != s || h.lot != l || of != null && h.task == of) continue;
                h.pieces = Math.min(h.pieces, left);
                left -= h.pieces;
                if (h.task != null) h.task.pieces = h.pieces;
                if (h.pieces == 0 && h.task != null) end(h.task, 3);
                if (h.pieces == 0) holds.remove(h);
            }
        }
        for (Task t : all) {
            if (t == of || t.kind != 1 || !t.lives() || t.from != s || t.lot != l) continue;
            t.pieces = Math.min(t.pieces, left);
            left -= t.pieces;
            if (t.pieces == 0) end(t, 3);
        }
    }

    void standstill() {
        int[] next = {-1, -1, -1};
        for (int r = 0; r < 3; r++) for (int o = 0; o < 3; o++) if (waits[r] != -1 && aisle[o] == waits[r]) next[r] = o;
        for (int r = 2; r >= 0; r--) {
            int a = next[r], b = a == -1 ? -1 : next[a], c = b == -1 ? -1 : next[b];
            if (a == r || b == r || c == r) {
                if (c == r && b != r) ringsOfThree++;
                aisle[r] = -1;
                stills++;
                return;
            }
        }
    }

    public int where(int r) { index(in(r, 0, 2)); return aisle[r] == -1 ? -1 : 10 * aisle[r] + position[r]; }
    public int doing(int r) { index(in(r, 0, 2)); return rows.get(r).isEmpty() ? -1 : all.indexOf(rows.get(r).getFirst()); }
    public int tasks() { return all.size(); }

    public int taskAt(int t) {
        index(isTask(t));
        return 1000 * all.get(t).kind + 100 * all.get(t).state + all.get(t).pieces;
    }

    public int standstills() { return stills; }

    // ---- losses, counts

    public int lose(int s, int l, int n) {
        index(in(s, 0, 17) && isLot(l)); argument(in(n, 1, 99));
        truth[s][l] = Math.max(0, truth[s][l] - n);
        return truth[s][l];
    }

    public int count(int s, int l) {
        index(in(s, 0, 17) && isLot(l));
        bill += 6;
        int n = truth[s][l];
        if (n == stock[s][l]) doubt[s][l] = -1;
        else if (doubt[s][l] != n) doubt[s][l] = n;
        else if (n < stock[s][l]) shorts(s, l, null);
        else move(-1, s, l, n - stock[s][l]);
        return n;
    }

    public int find(int s, int l, int n) {
        index(in(s, 0, 17) && isLot(l)); argument(in(n, 1, 99));
        return truth[s][l] += n;
    }

    // ---- boxes, sending, returns, recalls

    List<int[]> packed(int o) {
        if (orders.get(o).sent) return orders.get(o).boxes;
        List<Integer> pieces = new ArrayList<>();
        for (int l = 0; l < lots.size(); l++) for (int n = 0; n < stock[20 + o][l]; n++) pieces.add(lots.get(l)[0]);
        pieces.sort(Comparator.<Integer>comparingInt(i -> -item[i][1]).thenComparingInt(i -> i));
        List<int[]> boxes = new ArrayList<>();
        for (int i : pieces) {
            int[] in = null;
            for (int[] b : boxes) if (in == null && fits(b, i)) in = b;
            if (in == null) boxes.add(in = new int[4]);
            in[0] += item[i][1]; in[1] += item[i][2]; in[2]++; in[3] |= 1 << i;
        }
        return boxes;
    }

    boolean fits(int[] box, int i) {
        for (int j = 0; j < 6; j++) if (j != i && (box[3] & 1 << j) != 0 && barred[item[i][3]][item[j][3]]) return false;
        return box[0] + item[i][1] <= 30 && box[1] + item[i][2] <= 50;
    }

    public int boxes(int o) { index(isOrder(o)); return packed(o).size(); }

    public int boxAt(int o, int b) {
        index(isOrder(o) && in(b, 0, packed(o).size() - 1));
        return 1000 * packed(o).get(b)[1] + packed(o).get(b)[2];
    }

    void unhold(Hold h) {
        holds.remove(h);
        if (h.task != null) end(h.task, 3);
    }

    public int send(int o) {
        index(isOrder(o)); state(!orders.get(o).sent);
        for (Hold h : new ArrayList<>(holds)) if (h.order == o) unhold(h);
        Order order = orders.get(o);
        order.boxes = packed(o);
        order.sent = true;
        bill += 5 * order.boxes.size();
        int sum = 0;
        for (int l = 0; l < lots.size(); l++) {
            int n = stock[20 + o][l];
            order.gone[l] += n;
            sum += n;
            move(20 + o, -1, l, n);
        }
        return sum;
    }

    public int sent(int o, int l) { index(isOrder(o) && isLot(l)); return orders.get(o).gone[l]; }

    public int comeBack(int o, int l, int n) {
        index(isOrder(o) && isLot(l)); argument(in(n, 1, 99)); state(orders.get(o).gone[l] >= n);
        orders.get(o).gone[l] -= n;
        move(-1, 19, l, n);
        bill += 2 * n;
        return stock[19][l];
    }

    public int judge(int l, int n, boolean good) {
        index(isLot(l)); argument(in(n, 1, 99)); state(stock[19][l] >= n);
        move(19, good ? 18 : -1, l, n);
        return stock[19][l];
    }

    public int recall(int l) {
        index(isLot(l)); state(lots.get(l)[2] == 0);
        lots.get(l)[2] = 1;
        for (Hold h : new ArrayList<>(holds)) if (h.lot == l) unhold(h);
        int n = 0;
        for (Order o : orders) n += o.gone[l];
        return n;
    }

    public int bill() { return bill; }
}
