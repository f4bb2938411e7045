import java.util.ArrayList;
import java.util.List;
import java.util.function.Supplier;

/** All that a warehouse answers without being changed, and what it answers when it goes on. */
final class Answers {
    /** What a call that throws counts as. */
    private static final long THROWN = Long.MIN_VALUE;
    private static final int CALLS = 340;

    interface Ask { long of(Warehouselore x); }

    private static final class Question {
        final String what;
        final Ask ask;

        Question(String what, Ask ask) {
            this.what = what;
            this.ask = ask;
        }
    }

    private static final List<Question> QUESTIONS = new ArrayList<>();

    private Answers() { }

    private static void question(String what, Ask ask) { QUESTIONS.add(new Question(what, ask)); }

    static void ask() {
        if (!QUESTIONS.isEmpty()) return;
        for (int p = 0; p < 28; p++) for (int l = 0; l < 12; l++) ofPlaces(p, l);
        for (int n = 0; n < 8; n++) ofNumbers(n);
        for (int t = 0; t < 60; t++) {
            int task = t;
            question("taskAt " + t, x -> x.taskAt(task));
        }
        for (int r = 0; r < 3; r++) {
            int robot = r;
            question("where " + r, x -> x.where(robot));
            question("doing " + r, x -> x.doing(robot));
        }
        question("tasks", Warehouselore::tasks);
        question("standstills", Warehouselore::standstills);
        question("bill", Warehouselore::bill);
    }

    private static void ofPlaces(int p, int l) {
        question("stock " + p + " " + l, x -> x.stock(p, l));
        question("stockAnew " + p + " " + l, x -> x.stockAnew(p, l));
        if (p < 19) question("free " + p + " " + l, x -> x.free(p, l));
        if (p < 18 && l == 0) question("room " + p, x -> x.room(p));
        if (p < 18) for (int o = 0; o < 8; o++) {
            int order = o;
            question("held " + o + " " + p + " " + l, x -> x.held(order, p, l));
        }
    }

    private static void ofNumbers(int n) {
        question("others " + n, x -> x.others(n));
        question("boxes " + n, x -> x.boxes(n));
        for (int k = 0; k < 6; k++) {
            int of = k;
            if (k < 3) question("lacks " + n + " " + k, x -> x.lacks(n, of));
            question("boxAt " + n + " " + k, x -> x.boxAt(n, of));
        }
        for (int l = 0; l < 12; l++) {
            int lot = l;
            question("sent " + n + " " + l, x -> x.sent(n, lot));
            question("received " + n + " " + l, x -> x.received(n, lot));
        }
    }

    private static long answer(Ask ask, Warehouselore x) {
        try {
            return ask.of(x);
        } catch (RuntimeException e) {
            return THROWN;
        }
    }

    /** All answers; each object is asked so few that it is used for less than 512 calls. */
    static long[] all(Supplier<Warehouselore> scene) {
        ask();
        long[] got = new long[QUESTIONS.size()];
        Warehouselore x = null;
        for (int q = 0; q < got.length; q++) {
            if (q % CALLS == 0) x = scene.get();
            got[q] = answer(QUESTIONS.get(q).ask, x);
        }
        return got;
    }

    static String what(int question) {
        return question < QUESTIONS.size() ? QUESTIONS.get(question).what : "going on " + question;
    }

    /** What is answered when the warehouse goes on: this tells what no question tells: truth, doubts, zones, bars, cases. */
    static long[] goingOn(Supplier<Warehouselore> scene) {
        List<Long> got = new ArrayList<>();
        counting(got, scene.get());
        working(got, scene.get());
        settingUp(got, scene.get());
        telling(got, scene.get());
        long[] all = new long[got.size()];
        for (int i = 0; i < all.length; i++) all[i] = got.get(i);
        return all;
    }

    private static void tell(List<Long> got, Warehouselore x, Ask ask) { got.add(answer(ask, x)); }

    private static void counting(List<Long> got, Warehouselore x) {
        for (int s = 0; s < 18; s++)
            for (int l = 0; l < 6; l++) {
                int slot = s, lot = l;
                tell(got, x, y -> y.count(slot, lot));
                tell(got, x, y -> y.stock(slot, lot));
            }
        for (int t = 0; t < 60; t++) {
            int task = t;
            tell(got, x, y -> y.taskAt(task));
        }
    }

    private static void working(List<Long> got, Warehouselore x) {
        for (int t = 0; t < 12; t++) {
            int task = t;
            tell(got, x, y -> y.give(task % 3, task));
        }
        tell(got, x, y -> y.pass(3));
        tell(got, x, Warehouselore::refill);
        tell(got, x, Warehouselore::allocate);
        for (int r = 0; r < 3; r++) {
            int robot = r;
            tell(got, x, y -> y.wave(robot, 7 << 3 * robot & 255));
        }
        for (int k = 0; k < 9; k++) {
            tell(got, x, y -> y.pass(20));
            for (int r = 0; r < 3; r++) {
                int robot = r;
                tell(got, x, y -> y.where(robot));
                tell(got, x, y -> y.doing(robot));
            }
        }
        for (int o = 0; o < 8; o++) {
            int order = o;
            tell(got, x, y -> y.boxes(order));
            tell(got, x, y -> y.send(order));
            tell(got, x, y -> y.comeBack(order, 0, 1));
        }
        for (int l = 0; l < 12; l++) {
            int lot = l;
            tell(got, x, y -> y.judge(lot, 1, true));
            tell(got, x, y -> y.putAway(lot, 1));
            tell(got, x, y -> y.recall(lot));
            tell(got, x, y -> y.free(18, lot));
        }
        tell(got, x, Warehouselore::bill);
    }

    private static void settingUp(List<Long> got, Warehouselore x) {
        tell(got, x, y -> y.order(9, true, 0));
        tell(got, x, y -> y.notice(0, 20));
        tell(got, x, y -> y.lot(0, 70));
        for (int n = 0; n < 8; n++) {
            int number = n;
            tell(got, x, y -> y.line(number, 0, 2));
            tell(got, x, y -> y.receive(number, 0, 50));
            tell(got, x, y -> y.receive(number, 1, 50));
            tell(got, x, y -> y.close(number));
        }
        for (int k = 0; k < 24; k++) {
            int pieces = 1 + 3 * k % 20, lot = k % 2;
            tell(got, x, y -> y.putAway(lot, pieces));
        }
        tell(got, x, y -> { y.item(4, 1, 1, 1, 0, 1); return 0; });
        tell(got, x, y -> { y.item(5, 2, 1, 1, 0, 1); return 0; });
        for (int s = 0; s < 18; s++) {
            int slot = s;
            tell(got, x, y -> y.room(slot));
            for (int i = 0; i < 6; i++) {
                int item = i;
                tell(got, x, y -> { y.face(slot, item, 0, 0); return 0; });
            }
        }
        for (int g = 0; g < 16; g++) {
            int both = g;
            tell(got, x, y -> y.bar(both / 4, both % 4, false) ? 1 : 0);
        }
        tell(got, x, y -> y.pass(1));
    }

    /** What each item is like: its size by the room, its cases by a refilling, its weight by a box. */
    private static void telling(List<Long> got, Warehouselore x) {
        for (int i = 0; i < 6; i++) {
            int item = i;
            long made = answer(y -> y.lot(item, 9000), x);
            int lot = made == THROWN ? i : (int) made;
            got.add(made);
            for (int k = 0; k < 3; k++) {
                int time = k;
                tell(got, x, y -> time == 0 ? y.find(item, lot, 25) : y.count(item, lot));
            }
            tell(got, x, y -> y.room(item));
            tell(got, x, y -> { y.face(12 + item, item, 13, 13); return 0; });
            tell(got, x, Warehouselore::refill);
            tell(got, x, y -> y.taskAt(y.tasks() - 1));
            tell(got, x, y -> y.order(9, false, 0));
            tell(got, x, y -> y.line(item, item, 1));
        }
        tell(got, x, Warehouselore::allocate);
        tell(got, x, y -> y.wave(2, 255));
        for (int k = 0; k < 3; k++) tell(got, x, y -> y.pass(50));
        for (int o = 0; o < 8; o++) {
            int order = o;
            tell(got, x, y -> y.boxAt(order, 0));
        }
    }
}
