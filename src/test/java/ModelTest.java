import java.lang.reflect.Method;
import java.util.ArrayList;
import java.util.List;
import java.util.Map;
import java.util.Random;
import java.util.TreeMap;

/** Long runs of calls by seeds: each answer, and all that is told behind it, must be the Model's. */
public final class ModelTest {
    private static final int RUNS = 800;
    private static final int CALLS = 512;

    private final Random random;
    private final CrissMerger program = new CrissMerger();
    private final Model model = new Model();
    private final List<String> log = new ArrayList<>();
    private final int figures;
    private final int wrongness;
    private static final Map<String, Integer> seen = new TreeMap<>();
    private static final Map<String, Method> methods = new TreeMap<>();
    private static int wrong = 0;

    private ModelTest(long seed) {
        random = new Random(seed);
        figures = 1 + random.nextInt(10);
        wrongness = random.nextInt(3) == 0 ? 6 : 60;
    }

    public static void main(String[] args) throws Exception {
        for (Class<?> c : new Class<?>[] {CrissMerger.class, Model.class}) {
            for (Method m : c.getDeclaredMethods()) {
                m.setAccessible(true);
                methods.put(c.getName() + "." + m.getName() + m.getParameterCount(), m);
            }
        }
        for (int seed = 0; seed < RUNS && wrong == 0; seed++) {
            new ModelTest(seed).run();
        }
        for (String rare : List.of("knot", "three nearest", "nested", "deep", "torn", "spent merge", "spent common",
                "full", "odd chance", "lots merged", "settled nested", "base conflict")) {
            if (seen.getOrDefault(rare, 0) < 10) {
                wrong++;
                System.out.println("too seldom seen: " + rare + ", " + seen.getOrDefault(rare, 0) + " times");
            }
        }
        System.out.println("ModelTest: " + RUNS + " runs, seen " + seen);
        if (wrong != 0) {
            System.exit(1);
        }
    }

    private static void see(String what, boolean really) {
        if (really) {
            seen.merge(what, 1, Integer::sum);
        }
    }

    private boolean finished() {
        return wrong != 0 || log.size() >= CALLS;
    }

    private void run() throws Exception {
        for (int guard = 0; !finished() && guard < 10000; guard++) {
            step();
        }
    }

    /** Calls both, compares the answers and all that is told; digest() of both tells the whole state. */
    private long call(String name, int... args) throws Exception {
        if (finished()) {
            return 0;
        }
        Object[] boxed = new Object[args.length];
        for (int i = 0; i < args.length; i++) {
            boxed[i] = args[i];
        }
        long got = ((Number) methods.get("CrissMerger." + name + args.length).invoke(program, boxed)).longValue();
        long due = ((Number) methods.get("Model." + name + args.length).invoke(model, boxed)).longValue();
        log.add(name + java.util.Arrays.toString(args) + " = " + got);
        compare(name, got, due);
        compare("asked", program.asked(), model.asked);
        compare("upper", program.upper(), model.chance.upper());
        compare("lower", program.lower(), model.chance.lower());
        compare("finding", program.finding(), model.finding);
        for (int f = 0; f <= 6; f++) {
            compare("findings", program.findings(f), model.findings(f));
        }
        compare("digest behind " + name, program.digest(), model.digest());
        if (wrong == 0) {
            observe(name, args, got);
        }
        return got;
    }

    private void compare(String what, long got, long due) {
        if (got != due && wrong == 0) {
            wrong++;
            System.out.println(String.join("\n", log));
            System.out.println(what + " answered " + got + ", due is " + due);
        }
    }

    private void observe(String name, int[] args, long got) {
        see(name + (got < 0 ? got : ""), true);
        see("spent merge", name.equals("merge") && got == Model.SPENT);
        see("spent common", name.equals("common") && got == Model.SPENT);
        see("full", got == Model.FULL);
        see("odd chance", model.chance.lower() > 2);
        see("lots merged", name.equals("lots") && got > 0 && model.count(2) > 1);
        if (name.equals("merge") && got > 0) {
            int v = (int) got;
            model.version(v, 0);
            see("knot", model.asked == 4);
            see("three nearest", Integer.bitCount(model.nearest(args[0], args[1])) > 2);
            model.version(v, 4);
            see("torn", model.asked != 0);
            model.version(v, 6);
            see("nested", model.asked > 1);
            see("deep", model.asked > 2);
            model.asked = program.asked();
        }
        if (name.equals("common") && got > 0) {
            boolean conflict = false;
            for (int x : model.rows[args[3]]) {
                conflict |= x == 10;
            }
            see("base conflict", conflict);
        }
        if (name.equals("settle") && got > 0) {
            model.version((int) got, 5);
            see("settled nested", model.asked > 0);
            model.asked = program.asked();
        }
    }

    private boolean oddly() {
        return random.nextInt(wrongness) == 0;
    }

    private int number(int below) {
        if (oddly()) {
            int[] odd = {-1, below, below + 1, Integer.MIN_VALUE, Integer.MAX_VALUE, -9, 100};
            return odd[random.nextInt(odd.length)];
        }
        return random.nextInt(Math.max(below, 1));
    }

    private int aVersion() {
        int n = model.book.size();
        // newer ones more often, so that histories grow long
        return oddly() ? number(n) : n == 0 ? 0 : n - 1 - (random.nextBoolean() ? random.nextInt(n) : random.nextInt(Math.min(n, 4)));
    }

    private void step() throws Exception {
        if (model.book.isEmpty() || random.nextInt(60) == 0) {
            begin();
        }
        int r = random.nextInt(100);
        if (r < 22) {
            changeOne(aVersion());
        } else if (r < 36) {
            call("merge", aVersion(), aVersion());
        } else if (r < 42) {
            crissCross();
        } else if (r < 44) {
            if (random.nextInt(3) > 0) {
                tripleCross();
            } else {
                hugeCross();
            }
        } else if (r < 54) {
            look();
        } else if (r < 80) {
            askAside();
        } else if (r < 84) {
            settleOne();
        } else if (r < 87) {
            call("drop", aVersion(), number(3));
        } else if (r < 89) {
            call("undo", model.book.isEmpty() ? 1 : 1 + number(model.book.size()));
        } else if (r < 91) {
            call(random.nextBoolean() ? "keep" : "on", number(3));
        } else if (r < 93) {
            int[] seeds = {0, 1, 2147483646, 2147483647, -5, random.nextInt()};
            call("lots", number(12), random.nextInt(3) == 0 ? seeds[random.nextInt(6)] : 1 + random.nextInt(2147483646));
        } else {
            handleRows();
        }
    }

    private void begin() throws Exception {
        StringBuilder signs = new StringBuilder();
        String letters = new String[] {"abc", "cab", "ab", "c", "", "bca", "aab", "abd", "ba"}[random.nextInt(9)];
        for (char c : letters.toCharArray()) {
            signs.append(" ".repeat(random.nextInt(4) / 2)).append(c);
            int n = random.nextInt(oddly() ? 10 : 9);
            for (int i = 0; i < n; i++) {
                signs.append((char) ('0' + random.nextInt(figures)));
            }
            if (oddly()) {
                signs.append((char) (32 + random.nextInt(90)));
            }
        }
        int t = number(4);
        call("text", t, Math.min(signs.length(), 60));
        for (int i = 0; i < signs.length() && i < 60; i++) {
            if (signs.charAt(i) != ' ') {
                call("put", t, i, signs.charAt(i) + 256 * random.nextInt(2));
            }
        }
        call("fault", t);
        call("book", t);
    }

    /** A change that leaves most of the LINES as they are, so that there is something to match. */
    private void changeOne(int v) throws Exception {
        int f = number(random.nextBoolean() ? 1 : 3);
        int r = number(6);
        List<Integer> lines = new ArrayList<>();
        if (call("file", v, f, r) >= 0 && r >= 0 && r < 6 && model.rows[r] != null) {
            for (int x : model.rows[r]) {
                if (x < 10 && lines.size() < 8) {
                    lines.add(x);
                }
            }
        }
        for (int k = 0; k <= random.nextInt(3); k++) {
            int at = random.nextInt(lines.size() + 1);
            int how = random.nextInt(3);
            if (how == 0 && lines.size() < 8) {
                lines.add(at, random.nextInt(figures));
            } else if (how == 1 && at < lines.size()) {
                lines.remove(at);
            } else if (at < lines.size()) {
                lines.set(at, random.nextInt(figures));
            }
        }
        call("row", r, lines.size() + (oddly() ? 3 : 0));
        for (int i = 0; i < lines.size(); i++) {
            call("lay", r, i, oddly() && random.nextInt(4) == 0 ? random.nextInt(20) - 5 : lines.get(i));
        }
        call("change", v, f, r);
    }

    private void crissCross() throws Exception {
        int v = aVersion();
        int had = model.book.size();
        changeOne(v);
        changeOne(v);
        if (model.book.size() == had + 2) {
            int a = had;
            int b = had + 1;
            for (int k = 0; k <= random.nextInt(4); k++) {
                int x = (int) call("merge", a, b);
                int y = (int) call("merge", b, a);
                call("mirrored", a, b);
                if (x < 0 || y < 0) {
                    return;
                }
                a = x;
                b = y;
                if (random.nextBoolean()) {
                    int n = model.book.size();
                    changeOne(a);
                    a = model.book.size() > n ? n : a;
                }
                call("nearest", a, b);
                call("common", a, b, random.nextInt(3), random.nextInt(6));
                call("would", a, b);
            }
        }
    }

    private void tripleCross() throws Exception {
        int v = aVersion();
        int had = model.book.size();
        for (int k = 0; k < 3; k++) {
            changeOne(v);
        }
        if (model.book.size() == had + 3) {
            int x = (int) call("merge", had, had + 1);
            int y = (int) call("merge", had + 1, had + 2);
            int a = (int) call("merge", x, had + 2);
            int b = (int) call("merge", had, y);
            call("nearest", a, b);
            call("would", b, a);
            call("common", a, b, random.nextInt(3), random.nextInt(6));
            call("merge", a, b);
        }
    }

    /** Each side settled or changed what is too large together, so that only the COMMON would be. */
    private void hugeCross() throws Exception {
        call("on", 2);
        call("undo", 1);
        int[] c = new int[4];
        for (int k = 0; k < 4; k++) {
            c[k] = changeTo(0, 0, 5 + random.nextInt(4));
        }
        int x = (int) call("merge", c[0], c[1]);
        int y = (int) call("merge", c[2], c[3]);
        int a = (int) call("merge", changeTo(x, 0, 3), changeTo(y, 0, 3));
        int b = (int) call("merge", changeTo(x, 0, 3), changeTo(y, random.nextInt(3), 3));
        call("nearest", a, b);
        call("common", a, b, random.nextInt(3), random.nextInt(6));
        call("would", a, b);
        call("mirrored", b, a);
        call("merge", b, a);
    }

    private int changeTo(int v, int f, int n) throws Exception {
        call("row", 1, n);
        for (int i = 0; i < n; i++) {
            call("lay", 1, i, random.nextInt(10));
        }
        return (int) call("change", v, f, 1);
    }

    private void settleOne() throws Exception {
        int v = aVersion();
        int f = number(3);
        for (int k = 0; k < 40; k++) {
            int w = random.nextInt(Math.max(model.book.size(), 1));
            int g = random.nextInt(3);
            if (!model.book.isEmpty() && model.book.get(w).content().files().get(g) != null
                    && model.book.get(w).content().files().get(g).stream().anyMatch(l -> l instanceof Model.Conflict)) {
                v = w;
                f = g;
            }
        }
        if (model.book.size() == 16 && random.nextBoolean()) {
            call("undo", Math.min(v + 1, 15));
        }
        call("settle", v, f, number(3));
    }

    private void look() throws Exception {
        int v = aVersion();
        switch (random.nextInt(6)) {
            case 0 -> call("version", v, number(7));
            case 1 -> call("mark", v, number(5));
            case 2 -> call("lines", v, number(3));
            case 3 -> call("count", number(11));
            case 4 -> call("ancestors", v);
            default -> call("file", v, number(3), number(6));
        }
    }

    private void askAside() throws Exception {
        int a = aVersion();
        int b = aVersion();
        switch (random.nextInt(11)) {
            case 0 -> call("nearest", a, b);
            case 1, 2 -> call("common", a, b, number(3), number(6));
            case 3 -> call("would", a, b);
            case 4 -> call("mirrored", a, b);
            case 5 -> call("unlike", a);
            case 6 -> call("shared", a, b);
            case 7 -> call("often", a, number(3), number(8));
            case 8 -> call("from", a, number(3), number(8));
            case 9 -> call("apart", a, b);
            default -> {
                call("ways", a);
                call("odds", a, b);
            }
        }
    }

    private void handleRows() throws Exception {
        int[] values = {0, 1, -1, Integer.MAX_VALUE, Integer.MIN_VALUE, 7, 10, -7};
        int r = number(6);
        switch (random.nextInt(9)) {
            case 0 -> call("row", r, number(41));
            case 1 -> call("lay", r, number(12), values[random.nextInt(8)]);
            case 2 -> call("at", r, number(12));
            case 3 -> call("tear", r);
            case 4, 5 -> call("copy", r, number(8), number(6), number(8), number(8));
            case 6 -> call("mean", r);
            case 7 -> call("text", number(4), number(61));
            default -> call("put", number(4), number(12), random.nextInt(600) - 300);
        }
    }
}
