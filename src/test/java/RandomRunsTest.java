import java.lang.reflect.InvocationTargetException;
import java.lang.reflect.Method;
import java.util.ArrayList;
import java.util.Arrays;
import java.util.HashMap;
import java.util.List;
import java.util.Map;
import java.util.Random;
import java.util.TreeMap;

/** Runs of up to 512 random calls, each compared with PlainWarehouse; wrong arguments among them. */
public final class RandomRunsTest {
    private static final int USUAL_RUNS = 3000;
    private static final int RUNS = Integer.getInteger("runs", USUAL_RUNS);
    private static final int CALLS = 512;
    private static final String[] ASKING = {"stock", "stockAnew", "free", "room", "others", "lacks", "held", "where",
        "doing", "tasks", "taskAt", "standstills", "boxes", "boxAt", "sent", "received", "bill"};

    private static final Map<String, Method> REAL = methodsOf(Warehouselore.class);
    private static final Map<String, Method> PLAIN = methodsOf(PlainWarehouse.class);
    private static final Map<String, Integer> SEEN = new TreeMap<>();

    private final Checks checks;
    private final Random random;
    private final Warehouselore real = new Warehouselore();
    private final PlainWarehouse plain = new PlainWarehouse();
    private final List<String> told = new ArrayList<>();
    private final int run;
    private boolean isWrong;

    private RandomRunsTest(Checks checks, int run) {
        this.checks = checks;
        this.run = run;
        this.random = new Random(run);
    }

    public static void main(String[] args) {
        Checks checks = new Checks("RandomRunsTest");
        for (int run = 1; run <= RUNS; run++) new RandomRunsTest(checks, run).go();
        System.out.println("seen: " + SEEN);
        for (String what : new String[] {"standstills", "task.12", "task.13", "task.22", "task.23", "task.22 short", "task.23 whole",
            "moreThanOneBox", "sure less", "sure more", "putAway.none", "wave.IllegalStateException", "refill.made",
            "comeBack", "judge", "recall.some", "ringOfThree", "roomBelow0"})
            checks.due("runs that show " + what, RUNS < USUAL_RUNS || SEEN.getOrDefault(what, 0) > 0, true);
        checks.close();
    }

    private static Map<String, Method> methodsOf(Class<?> kind) {
        Map<String, Method> found = new HashMap<>();
        for (Method m : kind.getDeclaredMethods())
            if (java.lang.reflect.Modifier.isPublic(m.getModifiers())) {
                m.setAccessible(true);
                found.put(m.getName(), m);
            }
        return found;
    }

    private static void see(String what) { SEEN.merge(what, 1, Integer::sum); }

    // ---- one call on both

    private static Object answer(Method method, Object on, Object[] args) {
        try {
            Object got = method.invoke(on, args);
            return got == null ? "nothing" : got;
        } catch (InvocationTargetException e) {
            Throwable t = e.getCause();
            // What the machine itself throws tells what was wrong; what the class throws tells nothing.
            return t.getMessage() == null ? t.getClass().getSimpleName() : t.toString();
        } catch (IllegalAccessException e) {
            throw new AssertionError(e);
        }
    }

    private Object both(String name, Object... args) {
        List<Object> before = random.nextInt(20) == 0 ? observed(REAL, real) : null;
        Object got = answer(REAL.get(name), real, args);
        Object want = answer(PLAIN.get(name), plain, args);
        told.add(name + Arrays.toString(args) + " -> " + got);
        checks.due("a call", true, true);
        if (!got.equals(want)) {
            isWrong = true;
            checks.tell("run " + run + ", call " + told.size() + ": " + told.get(told.size() - 1) + ", due is " + want);
        }
        if (before != null && got instanceof String && !got.equals("nothing") && !before.equals(observed(REAL, real))) {
            isWrong = true;
            checks.tell("run " + run + ", call " + told.size() + ": " + name + " threw, and changed something");
        }
        if (got instanceof String) see(name + "." + got); else see(name);
        return got;
    }

    private int asked(String name, Object... args) {
        Object got = both(name, args);
        return got instanceof Integer ? (Integer) got : -2;
    }

    private List<Object> observed(Map<String, Method> face, Object on) {
        List<Object> all = new ArrayList<>();
        int lots = plain.lots.size();
        for (String name : ASKING) {
            Method m = face.get(name);
            switch (name) {
                case "stock", "stockAnew" -> grid(all, m, on, 28, lots);
                case "free" -> grid(all, m, on, 19, lots);
                case "room" -> row(all, m, on, 18);
                case "others" -> row(all, m, on, plain.notices.size());
                case "lacks" -> grid(all, m, on, plain.orders.size(), 3);
                case "held" -> {
                    for (int o = 0; o < plain.orders.size(); o++)
                        for (int s = 0; s < 18; s++)
                            for (int l = 0; l < lots; l++) all.add(answer(m, on, new Object[] {o, s, l}));
                }
                case "where", "doing" -> row(all, m, on, 3);
                case "taskAt" -> row(all, m, on, plain.all.size());
                case "boxes" -> row(all, m, on, plain.orders.size());
                case "boxAt" -> grid(all, m, on, plain.orders.size(), 5);
                case "sent" -> grid(all, m, on, plain.orders.size(), lots);
                case "received" -> grid(all, m, on, plain.notices.size(), lots);
                default -> all.add(answer(m, on, new Object[0]));
            }
        }
        return all;
    }

    private static void row(List<Object> all, Method m, Object on, int n) {
        for (int i = 0; i < n; i++) all.add(answer(m, on, new Object[] {i}));
    }

    private static void grid(List<Object> all, Method m, Object on, int rows, int columns) {
        for (int i = 0; i < rows; i++) for (int j = 0; j < columns; j++) all.add(answer(m, on, new Object[] {i, j}));
    }

    private void compareAll() {
        List<Object> got = observed(REAL, real);
        List<Object> want = observed(PLAIN, plain);
        if (!got.equals(want)) {
            isWrong = true;
            int i = 0;
            while (i < got.size() && got.get(i).equals(want.get(i))) i++;
            checks.tell("run " + run + " after call " + told.size() + ": observation " + i + " is " + got.get(i) + ", due is "
                + want.get(i) + "; last call " + told.get(told.size() - 1));
        }
    }

    // ---- a run

    private int wild(int most) {
        int[] wilds = {-1, -2, most + 1, most, 0, Integer.MAX_VALUE, Integer.MIN_VALUE, most + 10};
        return wilds[random.nextInt(wilds.length)];
    }

    /** Mostly 0 to most. */
    private int number(int most) {
        return most < 0 || random.nextInt(100) < 1 ? wild(most) : random.nextInt(most + 1);
    }

    private int number(int least, int most) { return random.nextInt(100) < 1 ? wild(most) : least + random.nextInt(most - least + 1); }

    private int lotNumber() { return number(plain.lots.size() - 1); }
    private int orderNumber() { return number(plain.orders.size() - 1); }

    private void go() {
        setUp();
        while (told.size() < CALLS && !isWrong) {
            step();
            if (told.size() % 64 == 0) compareAll();
        }
        if (!isWrong) compareAll();
        for (PlainWarehouse.Task t : plain.all) {
            see("task." + t.kind + t.state);
            if (t.kind == 2 && t.state == 2 && t.pieces == 0) see("task.22 short");
            if (t.kind == 2 && t.state == 3 && t.pieces > 0) see("task.23 whole");
        }
        for (int o = 0; o < plain.orders.size(); o++) if (plain.packed(o).size() > 1) see("moreThanOneBox");
        for (int s = 0; s < 18; s++) if (plain.roomIn(s) < 0) see("roomBelow0");
        if (plain.stills > 0) see("standstills");
        if (plain.ringsOfThree > 0) see("ringOfThree");
    }

    private int zones;
    private int kinds;

    private void setUp() {
        zones = random.nextInt(3);
        kinds = random.nextInt(3);
        for (int i = 0; i < 6; i++)
            if (random.nextInt(4) > 0) both("item", i, number(zones), number(1, 9), number(1, 20), number(3), number(1, random.nextBoolean() ? 3 : 12));
        for (int s = 0; s < 18; s++)
            if (random.nextInt(2) == 0) both("slot", s, number(zones), number(1, random.nextBoolean() ? 200 : 60));
        int bars = random.nextInt(4);
        for (int b = 0; b < bars; b++) both("bar", number(3), number(3), true);
        int lots = 1 + random.nextInt(9);
        for (int l = 0; l < lots; l++) both("lot", number(0, 1 + kinds * 2), random.nextInt(3) == 0 ? number(9999) : number(400));
        int faces = random.nextInt(7);
        for (int f = 0; f < faces; f++) setFace();
        both("notice", number(5), number(1, 99));
        if (random.nextInt(3) > 0) stockUp();
    }

    /** Many lots in many slots at once, by finds that are counted twice. */
    private void stockUp() {
        int pairs = 5 + random.nextInt(25);
        for (int k = 0; k < pairs; k++) {
            int s = random.nextInt(18);
            int l = random.nextInt(Math.max(1, plain.lots.size()));
            both("find", s, l, number(1, 15));
            both("count", s, l);
            both("count", s, l);
        }
    }

    private void setFace() {
        int least = number(1, 30);
        both("face", number(17), number(1 + kinds * 2), least, number(Math.max(1, Math.min(99, least)), 99));
    }

    private void step() {
        int what = random.nextInt(100);
        if (what < 12) deliver();
        else if (what < 24) { if (asked("putAway", lotNumber(), number(1, 20)) == -1) see("putAway.none"); }
        else if (what < 38) giveOne();
        else if (what < 54) both("pass", random.nextInt(3) == 0 ? number(1, 50) : number(1, 4));
        else if (what < 62) orderOne();
        else if (what < 67) both("allocate");
        else if (what < 73) both("wave", number(2), random.nextBoolean() ? 255 : number(1, 255));
        else if (what < 77) { if (asked("refill") > 0) see("refill.made"); }
        else if (what < 80) both("lose", number(17), lotNumber(), number(1, 20));
        else if (what < 81) both("find", number(17), lotNumber(), number(1, 30));
        else if (what < 87) countSome();
        else if (what < 93) sendSome();
        else ask();
    }

    private void deliver() {
        if (random.nextInt(6) == 0) both("notice", number(5), number(1, 99));
        if (random.nextInt(25) == 0) both("close", number(plain.notices.size() - 1));
        if (random.nextInt(25) == 0) both("lot", number(5), number(9999));
        both("receive", number(plain.notices.size() - 1), lotNumber(), number(1, 50));
    }

    private void giveOne() {
        List<Integer> open = new ArrayList<>();
        for (int t = 0; t < plain.all.size(); t++) if (plain.all.get(t).state == 0) open.add(t);
        if (open.isEmpty() || random.nextInt(20) == 0) both("give", number(2), number(plain.all.size() - 1));
        else both("give", number(2), open.get(random.nextInt(open.size())));
    }

    private void orderOne() {
        if (random.nextInt(3) == 0) both("order", number(9), random.nextInt(3) == 0, random.nextBoolean() ? 0 : number(200));
        both("line", orderNumber(), number(1 + kinds * 2), number(1, random.nextInt(4) == 0 ? 99 : 20));
    }

    private void countSome() {
        int s = number(17);
        int l = lotNumber();
        if (random.nextInt(3) > 0) {
            int tries = 0;
            while (tries++ < 40 && !(s >= 0 && s < 18 && l >= 0 && l < 12 && plain.truth[s][l] != plain.stock[s][l])) {
                s = random.nextInt(18);
                l = random.nextInt(Math.max(1, plain.lots.size()));
            }
        }
        int times = 1 + random.nextInt(3);
        for (int k = 0; k < times; k++) {
            int before = s >= 0 && s < 18 && l >= 0 && l < plain.lots.size() ? plain.stock[s][l] : 0;
            both("count", s, l);
            int after = s >= 0 && s < 18 && l >= 0 && l < plain.lots.size() ? plain.stock[s][l] : 0;
            if (after < before) see("sure less");
            if (after > before) see("sure more");
            if (random.nextInt(6) == 0) both("pass", number(1, 3));
        }
    }

    private void sendSome() {
        int what = random.nextInt(10);
        if (what < 1) both("send", orderNumber());
        else if (what < 4) comeBackSome();
        else if (what < 6) judgeSome();
        else if (what < 7 && random.nextInt(4) == 0) { if (asked("recall", lotNumber()) > 0) see("recall.some"); }
        else if (what < 8) both("bar", number(3), number(3), random.nextInt(3) == 0);
        else if (what < 9) setFace();
        else if (random.nextBoolean()) both("face", number(17), -1, 0, 0);
        else both("slot", number(17), number(zones), number(1, 200));
    }

    private void comeBackSome() {
        int o = orderNumber();
        int l = lotNumber();
        for (int k = 0; k < 200 && !plain.orders.isEmpty() && !plain.lots.isEmpty(); k++) {
            o = random.nextInt(plain.orders.size());
            l = random.nextInt(plain.lots.size());
            if (plain.orders.get(o).gone[l] > 0) break;
        }
        both("comeBack", o, l, number(1, 4));
    }

    private void judgeSome() {
        int l = lotNumber();
        for (int k = 0; k < 40 && !plain.lots.isEmpty(); k++) {
            l = random.nextInt(plain.lots.size());
            if (plain.stock[19][l] > 0) break;
        }
        both("judge", l, number(1, 3), random.nextBoolean());
    }

    private void ask() {
        int lots = plain.lots.size();
        switch (random.nextInt(17)) {
            case 0 -> both("stock", number(27), lotNumber());
            case 1 -> both("stockAnew", number(27), lotNumber());
            case 2 -> both("free", number(18), lotNumber());
            case 3 -> both("room", number(17));
            case 4 -> both("others", number(plain.notices.size() - 1));
            case 5 -> both("lacks", orderNumber(), number(2));
            case 6 -> both("held", orderNumber(), number(17), lotNumber());
            case 7 -> both("where", number(2));
            case 8 -> both("doing", number(2));
            case 9 -> both("tasks");
            case 10 -> both("taskAt", number(plain.all.size() - 1));
            case 11 -> both("standstills");
            case 12 -> both("boxes", orderNumber());
            case 13 -> both("boxAt", orderNumber(), number(6));
            case 14 -> both("sent", orderNumber(), number(lots - 1));
            case 15 -> both("received", number(plain.notices.size() - 1), number(lots - 1));
            default -> both("bill");
        }
    }
}
