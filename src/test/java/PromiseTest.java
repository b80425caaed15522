import java.util.Arrays;
import java.util.Objects;

/** For each promise of the document: ordinary inputs, the edges that it names, and wrong inputs. */
public final class PromiseTest {
    private static final int BAD = -1, FULL = -2, FINDING = -3, STATE = -4, SPENT = -6, NONE = -9;
    private static final int NOTHING = 1, BEYOND = 2, UNLIKE = 3, NOUGHT = 4, SIZE = 5;
    private static final int LOWEST = Integer.MIN_VALUE, HIGHEST = Integer.MAX_VALUE;
    private static int wrong = 0;
    private static int asked = 0;
    private static int promise = 0;
    private static CrissMerger x;

    public static void main(String[] args) {
        Runnable[] promises = {
            PromiseTest::newObject, PromiseTest::row, PromiseTest::lay, PromiseTest::at, PromiseTest::tear,
            PromiseTest::copy, PromiseTest::mean, PromiseTest::text, PromiseTest::put, PromiseTest::fault,
            PromiseTest::book, PromiseTest::version, PromiseTest::mark, PromiseTest::file, PromiseTest::lines,
            PromiseTest::ancestors, PromiseTest::nearest, PromiseTest::common, PromiseTest::would,
            PromiseTest::mirrored, PromiseTest::change, PromiseTest::drop, PromiseTest::settle, PromiseTest::merge,
            PromiseTest::undo, PromiseTest::keep, PromiseTest::on, PromiseTest::lots, PromiseTest::unlike,
            PromiseTest::shared, PromiseTest::often, PromiseTest::from, PromiseTest::apart, PromiseTest::ways,
            PromiseTest::odds, PromiseTest::asked, PromiseTest::upper, PromiseTest::lower, PromiseTest::count,
            PromiseTest::finding, PromiseTest::findings, PromiseTest::digest,
        };
        for (Runnable test : promises) {
            promise++;
            x = new CrissMerger();
            test.run();
        }
        System.out.println("PromiseTest: " + promises.length + " promises, " + asked + " answers, " + wrong + " wrong");
        if (wrong != 0) {
            System.exit(1);
        }
    }

    // ---- how it asks

    private static void due(String what, Object got, Object want) {
        asked++;
        if (!Objects.equals(got, want)) {
            wrong++;
            System.out.println("promise " + promise + ": " + what + " answered " + got + ", due is " + want);
        }
    }

    private static void due(String what, long got, long want) {
        due(what, Long.valueOf(got), Long.valueOf(want));
    }

    private static void told(String what, long got, long want) {
        due(what, got, 1);
        due(what + ", asked()", x.asked(), want);
    }

    /** A refusal: nothing changes but finding() and findings(), and these by a FINDING alone. */
    private static void refused(String what, java.util.function.IntSupplier call, int answer, int finding) {
        long digest = x.digest();
        int before = x.asked();
        long upper = x.upper();
        long lower = x.lower();
        int last = x.finding();
        int[] counts = counts();
        due(what, call.getAsInt(), answer);
        due(what + ", digest() behind", x.digest(), digest);
        due(what + ", asked() behind", x.asked(), before);
        due(what + ", upper() behind", x.upper(), upper);
        due(what + ", lower() behind", x.lower(), lower);
        if (answer == FINDING) {
            last = finding;
            counts[finding]++;
        }
        due(what + ", finding() behind", x.finding(), last);
        due(what + ", findings() behind", Arrays.toString(counts()), Arrays.toString(counts));
    }

    private static void refused(String what, java.util.function.IntSupplier call, int answer) {
        refused(what, call, answer, 0);
    }

    private static int[] counts() {
        int[] counts = new int[6];
        for (int f = 1; f <= 5; f++) {
            counts[f] = x.findings(f);
        }
        return counts;
    }

    private static void write(int t, String signs) {
        x.text(t, signs.length());
        for (int i = 0; i < signs.length(); i++) {
            x.put(t, i, signs.charAt(i));
        }
    }

    private static void start(String signs) {
        x = new CrissMerger();
        write(0, signs);
        due("book of " + signs, x.book(0) >= 0, true);
    }

    private static void fill(int r, int... numbers) {
        x.row(r, numbers.length);
        for (int i = 0; i < numbers.length; i++) {
            x.lay(r, i, numbers[i]);
        }
    }

    private static int change(int v, int f, int... figures) {
        fill(5, figures);
        return x.change(v, f, 5);
    }

    private static String rowText(int r) {
        StringBuilder out = new StringBuilder();
        for (int i = 0; x.at(r, i) == 1; i++) {
            out.append(out.length() > 0 ? " " : "").append(x.asked());
        }
        return out.toString();
    }

    private static String written(int v, int f) {
        int n = x.file(v, f, 4);
        return n < 0 ? "answer " + n : rowText(4);
    }

    private static String commonly(int a, int b, int f) {
        int n = x.common(a, b, f, 4);
        return n < 0 ? "answer " + n : rowText(4);
    }

    private static int trait(int v, int what) {
        due("version(" + v + ", " + what + ")", x.version(v, what), 1);
        return x.asked();
    }

    private static void fillUp() {
        while (x.count(0) < 16) {
            change(0, 2, 9);
        }
    }

    /** a 000, crossed by 010 and 020: VERSIONS 3 and 4 merge 1 and 2 either way round. */
    private static void crissCross() {
        start("a000");
        change(0, 0, 0, 1, 0);
        change(0, 0, 0, 2, 0);
        x.merge(1, 2);
        x.merge(2, 1);
    }

    // ---- 1 rows, texts, histories

    private static void newObject() {
        for (int what = 0; what <= 10; what++) {
            due("count(" + what + ")", x.count(what), 0);
        }
        for (int r = 0; r < 6; r++) {
            int row = r;
            refused("at of a missing ROW", () -> x.at(row, 0), FINDING, NOTHING);
        }
        for (int t = 0; t < 4; t++) {
            int text = t;
            refused("fault of a missing TEXT", () -> x.fault(text), FINDING, NOTHING);
        }
        refused("version(0, 0)", () -> x.version(0, 0), BAD);
        for (int k = 0; k < 3; k++) {
            int place = k;
            refused("on", () -> x.on(place), FINDING, NOTHING);
        }
        long h = 17;
        for (int i = 0; i < 11; i++) {
            h = 31 * h;
        }
        for (int i = 0; i < 3 + 6 + 4; i++) {
            h = 31 * h - 1;
        }
        due("digest()", new CrissMerger().digest(), h);
    }

    private static void row() {
        due("row(0, 3)", x.row(0, 3), 3);
        due("ROW 0", rowText(0), "0 0 0");
        x.lay(0, 1, 7);
        due("row(0, 40)", x.row(0, 40), 40);
        due("ROW 0 anew", rowText(0), "0".repeat(40).replaceAll("(?<=.)(?=.)", " "));
        due("row(5, 0)", x.row(5, 0), 0);
        due("count(8)", x.count(8), 2);
        refused("row(0, 41)", () -> x.row(0, 41), BAD);
        refused("row(0, HIGHEST)", () -> x.row(0, HIGHEST), BAD);
        refused("row(0, -1)", () -> x.row(0, -1), FINDING, SIZE);
        refused("row(0, LOWEST)", () -> x.row(0, LOWEST), FINDING, SIZE);
        refused("row(6, -1)", () -> x.row(6, -1), BAD);
        refused("row(-1, 3)", () -> x.row(-1, 3), BAD);
        refused("row(LOWEST, 3)", () -> x.row(LOWEST, 3), BAD);
    }

    private static void lay() {
        x.row(1, 2);
        told("lay(1, 0, LOWEST)", x.lay(1, 0, LOWEST), 0);
        told("lay(1, 0, 5)", x.lay(1, 0, 5), LOWEST);
        told("lay(1, 1, 6)", x.lay(1, 1, 6), 0);
        due("ROW 1", rowText(1), "5 6");
        refused("lay(1, 2, 1)", () -> x.lay(1, 2, 1), FINDING, BEYOND);
        refused("lay(1, -1, 1)", () -> x.lay(1, -1, 1), FINDING, BEYOND);
        refused("lay(1, HIGHEST, 1)", () -> x.lay(1, HIGHEST, 1), FINDING, BEYOND);
        refused("lay(2, 0, 1)", () -> x.lay(2, 0, 1), FINDING, NOTHING);
        refused("lay(2, -1, 1)", () -> x.lay(2, -1, 1), FINDING, NOTHING);
        refused("lay(6, 0, 1)", () -> x.lay(6, 0, 1), BAD);
        refused("lay(-1, 0, 1)", () -> x.lay(-1, 0, 1), BAD);
    }

    private static void at() {
        fill(3, 8, -9);
        told("at(3, 0)", x.at(3, 0), 8);
        told("at(3, 1)", x.at(3, 1), -9);
        refused("at(3, 2)", () -> x.at(3, 2), FINDING, BEYOND);
        refused("at(3, -1)", () -> x.at(3, -1), FINDING, BEYOND);
        refused("at(3, LOWEST)", () -> x.at(3, LOWEST), FINDING, BEYOND);
        refused("at(4, 9)", () -> x.at(4, 9), FINDING, NOTHING);
        refused("at(6, 9)", () -> x.at(6, 9), BAD);
        refused("at(-1, 0)", () -> x.at(-1, 0), BAD);
    }

    private static void tear() {
        x.row(0, 1);
        x.row(1, 0);
        due("tear(0)", x.tear(0), 1);
        refused("tear(0)", () -> x.tear(0), FINDING, NOTHING);
        due("tear(1)", x.tear(1), 1);
        due("count(8)", x.count(8), 0);
        refused("at(0, 0)", () -> x.at(0, 0), FINDING, NOTHING);
        refused("tear(6)", () -> x.tear(6), BAD);
        refused("tear(-1)", () -> x.tear(-1), BAD);
        due("row(0, 2)", x.row(0, 2), 2);
        due("ROW 0", rowText(0), "0 0");
    }

    private static void copy() {
        fill(0, 1, 2, 3, 4, 5);
        fill(1, 6, 7, 8);
        due("copy(0, 1, 1, 0, 2)", x.copy(0, 1, 1, 0, 2), 1);
        due("ROW 1", rowText(1), "2 3 8");
        due("ROW 0", rowText(0), "1 2 3 4 5");
        due("copy(0, 0, 0, 1, 4)", x.copy(0, 0, 0, 1, 4), 1);
        due("ROW 0 up", rowText(0), "1 1 2 3 4");
        due("copy(0, 1, 0, 0, 4)", x.copy(0, 1, 0, 0, 4), 1);
        due("ROW 0 down", rowText(0), "1 2 3 4 4");
        due("copy(0, 5, 1, 3, 0)", x.copy(0, 5, 1, 3, 0), 1);
        due("copy(0, 0, 0, 0, 5)", x.copy(0, 0, 0, 0, 5), 1);
        refused("6 places", () -> x.copy(0, 0, 0, 0, 6), FINDING, BEYOND);
        refused("too many there", () -> x.copy(0, 0, 1, 2, 2), FINDING, BEYOND);
        refused("too many here", () -> x.copy(0, 4, 1, 0, 2), FINDING, BEYOND);
        refused("none, i above", () -> x.copy(0, 6, 1, 0, 0), FINDING, BEYOND);
        refused("none, j above", () -> x.copy(0, 0, 1, 4, 0), FINDING, BEYOND);
        refused("none, i below", () -> x.copy(0, -1, 1, 0, 0), FINDING, BEYOND);
        refused("none, j below", () -> x.copy(0, 0, 1, -1, 0), FINDING, BEYOND);
        refused("wraps around", () -> x.copy(0, 1, 1, 0, HIGHEST), FINDING, BEYOND);
        refused("wraps around, i", () -> x.copy(0, HIGHEST, 1, 0, HIGHEST), FINDING, BEYOND);
        refused("wraps around, j", () -> x.copy(0, 0, 1, HIGHEST, 1), FINDING, BEYOND);
        refused("lowest i", () -> x.copy(0, LOWEST, 1, 0, HIGHEST), FINDING, BEYOND);
        refused("missing here", () -> x.copy(2, 9, 1, 9, 9), FINDING, NOTHING);
        refused("missing there", () -> x.copy(0, 9, 2, 9, 9), FINDING, NOTHING);
        refused("missing, fewer than none", () -> x.copy(2, 0, 2, 0, -1), FINDING, SIZE);
        refused("BAD here", () -> x.copy(6, 0, 0, 0, -1), BAD);
        refused("BAD there", () -> x.copy(2, 0, -1, 0, -1), BAD);
    }

    private static void mean() {
        fill(0, 1, 2, 4);
        told("mean of 7 by 3", x.mean(0), 2);
        fill(0, -1, -2, -4);
        told("mean of -7 by 3, cut", x.mean(0), -2);
        fill(0, HIGHEST, HIGHEST, HIGHEST);
        told("mean of highest ones", x.mean(0), HIGHEST);
        fill(0, LOWEST, LOWEST);
        told("mean of lowest ones", x.mean(0), LOWEST);
        fill(0, 0, -1);
        told("mean of -1 by 2", x.mean(0), 0);
        x.row(0, 0);
        refused("mean of none", () -> x.mean(0), FINDING, NOUGHT);
        refused("mean(1)", () -> x.mean(1), FINDING, NOTHING);
        refused("mean(6)", () -> x.mean(6), BAD);
        refused("mean(-1)", () -> x.mean(-1), BAD);
    }

    private static void text() {
        due("text(0, 2)", x.text(0, 2), 2);
        due("a blank", x.put(0, 1, 97), 1032);
        due("text(0, 60)", x.text(0, 60), 60);
        for (int i = 0; i < 60; i++) {
            due("a blank", x.put(0, i, 1), 1032);
        }
        due("text(3, 0)", x.text(3, 0), 0);
        due("count(9)", x.count(9), 2);
        refused("text(0, 61)", () -> x.text(0, 61), BAD);
        refused("text(0, -1)", () -> x.text(0, -1), FINDING, SIZE);
        refused("text(0, LOWEST)", () -> x.text(0, LOWEST), FINDING, SIZE);
        refused("text(4, -1)", () -> x.text(4, -1), BAD);
        refused("text(-1, 1)", () -> x.text(-1, 1), BAD);
    }

    private static void put() {
        x.text(2, 3);
        due("put(2, 0, 127)", x.put(2, 0, 127), 1032);
        due("put(2, 0, 128)", x.put(2, 0, 128), 1127);
        due("put(2, 0, -129)", x.put(2, 0, -129), 872);
        due("put(2, 0, 256)", x.put(2, 0, 256), 1127);
        due("put(2, 0, LOWEST)", x.put(2, 0, LOWEST), 1000);
        due("put(2, 0, HIGHEST)", x.put(2, 0, HIGHEST), 1000);
        due("put(2, 0, 0)", x.put(2, 0, 0), 999);
        due("put(2, 2, 0)", x.put(2, 2, 0), 1032);
        due("asked()", x.asked(), 0);
        refused("put(2, 3, 0)", () -> x.put(2, 3, 0), FINDING, BEYOND);
        refused("put(2, -1, 0)", () -> x.put(2, -1, 0), FINDING, BEYOND);
        refused("put(1, -1, 0)", () -> x.put(1, -1, 0), FINDING, NOTHING);
        refused("put(4, 0, 0)", () -> x.put(4, 0, 0), BAD);
        refused("put(-1, 0, 0)", () -> x.put(-1, 0, 0), BAD);
    }

    private static void faultAt(String signs, int want) {
        write(1, signs);
        due("fault of '" + signs + "'", x.fault(1), want);
    }

    private static void fault() {
        faultAt("", NONE);
        faultAt("     ", NONE);
        faultAt("a", NONE);
        faultAt("  c01b234567890   a ", 14);
        faultAt("  c01b2345678   a ", NONE);
        faultAt("cab", NONE);
        faultAt("a00000000b00000000c00000000", NONE);
        faultAt("a000000000", 9);
        faultAt("a00000000 0", 10);
        faultAt("aba", 2);
        faultAt("a bb", 3);
        faultAt("a1 a", 3);
        faultAt("1", 0);
        faultAt("  7a", 2);
        faultAt("a 7", 2);
        faultAt("d", 0);
        faultAt("ad", 1);
        faultAt("A", 0);
        faultAt("`", 0);
        faultAt("a/", 1);
        faultAt("a:", 1);
        faultAt("a\t", 1);
        faultAt("a" + (char) 200, 1);
        faultAt("a1-b2", 2);
        write(1, " ");
        x.put(1, 0, 97 + 256);
        due("a sign cut to a byte", x.fault(1), NONE);
        x.put(1, 0, 160);
        due("no blank: -96", x.fault(1), 0);
        refused("fault(0)", () -> x.fault(0), FINDING, NOTHING);
        refused("fault(4)", () -> x.fault(4), BAD);
        refused("fault(-1)", () -> x.fault(-1), BAD);
    }

    private static void book() {
        write(1, "  b12 a ");
        due("book(1)", x.book(1), 2);
        due("FILE 0", written(0, 0), "");
        due("FILE 1", written(0, 1), "1 2");
        due("FILE 2", written(0, 2), "answer -9");
        change(0, 0, 5);
        x.keep(0);
        x.keep(2);
        write(2, "a1a");
        refused("book of a FAULT", () -> x.book(2), STATE);
        refused("book(3)", () -> x.book(3), FINDING, NOTHING);
        refused("book(4)", () -> x.book(4), BAD);
        refused("book(-1)", () -> x.book(-1), BAD);
        write(2, "");
        due("book of no FILES", x.book(2), 0);
        due("VERSIONS", x.count(0), 1);
        due("kept BOOKS go", x.count(10), 0);
        refused("on(0)", () -> x.on(0), FINDING, NOTHING);
        for (int f = 0; f < 3; f++) {
            due("FILE", written(0, f), "answer -9");
        }
        write(2, "c3b2a1");
        due("book of three", x.book(2), 3);
        due("FILES", written(0, 0) + written(0, 1) + written(0, 2), "123");
        tornOne();
        x.would(1, 2);
        due("behind a TORN one", x.book(0), 1);
        due("not TORN", trait(0, 4), 0);
        due("no PARENT", trait(0, 1), NONE);
    }

    private static void version() {
        crissCross();
        told("KIND of 0", x.version(0, 0), 1);
        told("KIND of 1", x.version(1, 0), 2);
        told("KIND of 3", x.version(3, 0), 3);
        change(3, 1, 7);
        change(4, 2, 8, 8);
        due("a KNOT's number", x.merge(5, 6), 7);
        told("KIND of a KNOT", x.version(7, 0), 4);
        told("first of 0", x.version(0, 1), NONE);
        told("second of 0", x.version(0, 2), NONE);
        told("first of 2", x.version(2, 1), 0);
        told("second of 2", x.version(2, 2), NONE);
        told("first of 4", x.version(4, 1), 2);
        told("second of 4", x.version(4, 2), 1);
        told("FILES of 0", x.version(0, 3), 1);
        told("FILES of 5", x.version(5, 3), 3);
        told("FILES of 7", x.version(7, 3), 7);
        told("CONFLICTS of 0", x.version(0, 5), 0);
        told("CONFLICTS of 3", x.version(3, 5), 1);
        told("deep in 0", x.version(0, 6), 0);
        told("deep in 3", x.version(3, 6), 1);
        x.drop(3, 0);
        told("FILES of a drop", x.version(8, 3), 0);
        change(3, 0, 9);
        x.merge(8, 9);
        told("TORN", x.version(10, 4), 1);
        told("not TORN", x.version(9, 4), 0);
        told("FILES of a TORN one", x.version(10, 3), 1);
        nestedConflict();
        told("CONFLICTS, nested", x.version(6, 5), 1);
        told("deep, nested", x.version(6, 6), 2);
        due("asked() stays", x.version(0, 3), 1);
        refused("version(0, 7)", () -> x.version(0, 7), BAD);
        refused("version(0, -1)", () -> x.version(0, -1), BAD);
        refused("version(16, 0)", () -> x.version(16, 0), BAD);
        refused("version(7, 0)", () -> x.version(7, 0), BAD);
        refused("version(-1, 0)", () -> x.version(-1, 0), BAD);
    }

    /** VERSION 6: a CONFLICT that has one in OURS, over the BASE a 1. */
    private static void nestedConflict() {
        start("a1");
        change(0, 0, 2);
        change(0, 0, 3);
        x.merge(1, 2);
        change(0, 0, 4);
        x.merge(3, 4);
        due("nested", written(5, 0), "10 10 2 11 1 12 3 13 11 1 12 4 13");
        x.merge(4, 3);
        due("nested the other way", written(6, 0), "10 4 11 1 12 10 2 11 1 12 3 13 13");
    }

    private static void mark() {
        start("a12 c");
        told("mark(0, 1)", x.mark(0, 1), 2);
        change(0, 0, 1, 3, 4);
        change(0, 0, 5, 2);
        told("mark(1, 2)", x.mark(1, 2), 3);
        told("mark(2, 2)", x.mark(2, 2), 2);
        x.drop(0, 0);
        told("a drop", x.mark(3, 2), 2);
        x.merge(1, 2);
        told("a MERGE", x.mark(4, 3), 1);
        x.merge(2, 1);
        x.merge(4, 5);
        told("a KNOT as a MERGE", x.mark(6, 3), 6);
        told("a KNOT", x.mark(6, 4), 2);
        int[] kinds = {1, 2, 2, 2, 3, 3, 4};
        for (int v = 0; v < 7; v++) {
            for (int kind = 1; kind <= 4; kind++) {
                int version = v;
                int asKind = kind;
                if (kinds[v] != kind && !(kinds[v] == 4 && kind == 3)) {
                    refused("mark(" + v + ", " + kind + ")", () -> x.mark(version, asKind), FINDING, UNLIKE);
                }
            }
        }
        refused("mark(0, 0)", () -> x.mark(0, 0), BAD);
        refused("mark(0, 5)", () -> x.mark(0, 5), BAD);
        refused("mark(7, 1)", () -> x.mark(7, 1), BAD);
        refused("mark(-1, 1)", () -> x.mark(-1, 1), BAD);
    }

    private static void file() {
        crissCross();
        x.row(2, 40);
        due("file(3, 0, 2)", x.file(3, 0, 2), 9);
        due("WRITTEN OUT", rowText(2), "0 10 1 11 0 12 2 13 0");
        due("file(0, 0, 3)", x.file(0, 0, 3), 3);
        due("ROW 3 comes anew", rowText(3), "0 0 0");
        fill(2, 7, 7);
        refused("a missing one: the ROW stays", () -> x.file(0, 1, 2), NONE);
        refused("a missing one: no ROW comes", () -> x.file(0, 2, 0), NONE);
        due("ROW 2", rowText(2), "7 7");
        refused("file(5, 0, 0)", () -> x.file(5, 0, 0), BAD);
        refused("file(-1, 0, 0)", () -> x.file(-1, 0, 0), BAD);
        refused("file(0, 3, 0)", () -> x.file(0, 3, 0), BAD);
        refused("file(0, -1, 0)", () -> x.file(0, -1, 0), BAD);
        refused("file(0, 0, 6)", () -> x.file(0, 0, 6), BAD);
        refused("file(0, 1, -1)", () -> x.file(0, 1, -1), BAD);
        start("a12b");
        due("of no LINES", x.file(0, 1, 0), 0);
        due("the ROW is there", x.count(8), 1);
    }

    private static void lines() {
        crissCross();
        due("lines(0, 0)", x.lines(0, 0), 3);
        due("a CONFLICT is one", x.lines(3, 0), 3);
        due("missing", x.lines(0, 1), NONE);
        change(0, 1);
        due("none", x.lines(5, 1), 0);
        refused("lines(6, 0)", () -> x.lines(6, 0), BAD);
        refused("lines(-1, 0)", () -> x.lines(-1, 0), BAD);
        refused("lines(0, 3)", () -> x.lines(0, 3), BAD);
        refused("lines(0, -1)", () -> x.lines(0, -1), BAD);
        nestedConflict();
        due("a nested one is one", x.lines(6, 0), 1);
    }

    // ---- 2 ancestors, merges aside

    private static void ancestors() {
        refused("ancestors(0) of none", () -> x.ancestors(0), BAD);
        crissCross();
        change(3, 0, 1);
        due("of 0", x.ancestors(0), 1);
        due("of 2", x.ancestors(2), 5);
        due("of 4", x.ancestors(4), 0b10111);
        due("of 5", x.ancestors(5), 0b101111);
        refused("ancestors(6)", () -> x.ancestors(6), BAD);
        refused("ancestors(-1)", () -> x.ancestors(-1), BAD);
        refused("ancestors(HIGHEST)", () -> x.ancestors(HIGHEST), BAD);
    }

    private static void nearest() {
        crissCross();
        due("of siblings", x.nearest(1, 2), 1);
        due("of a cross", x.nearest(3, 4), 6);
        due("the other way round", x.nearest(4, 3), 6);
        due("of an ANCESTOR", x.nearest(1, 3), 2);
        due("of a far ANCESTOR", x.nearest(3, 0), 1);
        change(4, 0, 5);
        due("of a child", x.nearest(5, 3), 6);
        due("of child and PARENT", x.nearest(5, 4), 16);
        refused("nearest(1, 1)", () -> x.nearest(1, 1), BAD);
        refused("nearest(0, 6)", () -> x.nearest(0, 6), BAD);
        refused("nearest(-1, 0)", () -> x.nearest(-1, 0), BAD);
        threeCross();
        due("three of them", x.nearest(6, 7), 0b1110);
    }

    /** VERSIONS 6 and 7 come from 1, 2 and 3 (a 012 with its first, second, third LINE as 3, 4, 5) in two ways. */
    private static void threeCross() {
        start("a012");
        change(0, 0, 3, 1, 2);
        change(0, 0, 0, 4, 2);
        change(0, 0, 0, 1, 5);
        x.merge(1, 2);
        x.merge(2, 3);
        x.merge(4, 3);
        x.merge(1, 5);
    }

    private static void common() {
        crissCross();
        due("of one NEAREST", commonly(1, 2, 0), "0 0 0");
        due("of two, nested", commonly(3, 4, 0), "0 10 1 11 0 12 2 13 0");
        due("the other way round: by numbers", commonly(4, 3, 0), "0 10 1 11 0 12 2 13 0");
        due("of an ANCESTOR: that", commonly(3, 1, 0), "0 1 0");
        fill(2, 7);
        refused("missing", () -> x.common(1, 2, 1, 2), NONE);
        due("how many numbers", x.common(1, 2, 0, 2), 3);
        refused("common(1, 1, 0, 0)", () -> x.common(1, 1, 0, 0), BAD);
        refused("common(1, 5, 0, 0)", () -> x.common(1, 5, 0, 0), BAD);
        refused("common(-1, 1, 0, 0)", () -> x.common(-1, 1, 0, 0), BAD);
        refused("common(1, 2, 3, 0)", () -> x.common(1, 2, 3, 0), BAD);
        refused("common(1, 2, -1, 0)", () -> x.common(1, 2, -1, 0), BAD);
        refused("common(1, 2, 0, 6)", () -> x.common(1, 2, 0, 6), BAD);
        refused("common(1, 2, 0, -1)", () -> x.common(1, 2, 0, -1), BAD);
        threeCross();
        due("of three, nested", commonly(6, 7, 0), "10 10 3 1 11 0 1 12 0 4 13 2 11 0 1 2 12 0 1 5 13");
        hugeCommon();
        for (int f = 0; f < 3; f++) {
            int file = f;
            refused("a FILE of it more than 40", () -> x.common(11, 12, file, 0), SPENT);
        }
        refused("BAD ahead of SPENT", () -> x.common(11, 12, 3, 0), BAD);
        deepCommon();
    }

    /** The COMMON of VERSIONS 11 and 12 has FILE 0 larger than 40, but none of the VERSIONS has. */
    private static void hugeCommon() {
        start("a00000000b5");
        change(0, 0, 1, 1, 1, 1, 1, 1, 1, 1);
        change(0, 0, 2, 2, 2, 2, 2, 2, 2, 2);
        change(0, 0, 3, 3, 3, 3, 3, 3, 3, 3);
        change(0, 0, 4, 4, 4, 4, 4, 4, 4, 4);
        due("5", x.merge(1, 2), 5);
        due("6", x.merge(3, 4), 6);
        change(5, 0, 9);
        change(6, 0, 9);
        change(5, 0, 8);
        change(6, 0, 8);
        due("11", x.merge(7, 8), 11);
        due("12", x.merge(9, 10), 12);
        due("NEAREST", x.nearest(11, 12), 0b1100000);
    }

    /** A cross of crosses: the COMMON of the NEAREST needs a COMMON that never was, too. */
    private static void deepCommon() {
        start("a1");
        change(0, 0, 2);
        change(0, 0, 3);
        x.merge(1, 2);
        x.merge(2, 1);
        change(3, 0, 4);
        change(4, 0, 5);
        x.merge(5, 6);
        x.merge(6, 5);
        due("NEAREST", x.nearest(7, 8), 0b1100000);
        due("a CONFLICT over a CONFLICT", commonly(7, 8, 0), "10 4 11 10 2 11 1 12 3 13 12 5 13");
        due("KNOT", trait(7, 0), 4);
        due("deep", trait(7, 6), 2);
        due("MERGED over it", x.merge(7, 8), 9);
        due("as THEIRS", written(9, 0), "10 5 11 10 2 11 1 12 3 13 12 4 13");
    }

    private static void would() {
        crissCross();
        due("would(1, 2)", x.would(1, 2), 1);
        due("TORN ones", x.asked(), 0);
        due("nothing is", x.count(0), 5);
        x.drop(0, 0);
        due("a drop and a change", x.would(5, 1), 0);
        due("TORN ones", x.asked(), 1);
        refused("would(1, 1)", () -> x.would(1, 1), BAD);
        refused("would(1, 6)", () -> x.would(1, 6), BAD);
        refused("would(-1, 1)", () -> x.would(-1, 1), BAD);
        refused("of an ANCESTOR", () -> x.would(0, 1), STATE);
        refused("to an ANCESTOR", () -> x.would(3, 1), STATE);
        fillUp();
        due("with 16 VERSIONS, too", x.would(2, 1), 1);
        hugeCommon();
        refused("the COMMON too large", () -> x.would(11, 12), SPENT);
        refused("too large", () -> x.would(5, 6), SPENT);
        start("a123b456");
        change(0, 0, 1, 0, 3);
        change(1, 1, 4, 5, 0);
        change(0, 0, 1, 9, 3);
        change(3, 1, 4, 5, 9);
        due("of all FILES", x.would(2, 4), 2);
    }

    private static void mirrored() {
        crissCross();
        due("mirrored(1, 2)", x.mirrored(1, 2), 1);
        due("mirrored(3, 4)", x.mirrored(3, 4), 1);
        due("nothing is", x.count(0), 5);
        change(0, 0, 7, 7);
        due("of a CONFLICT that was there", x.mirrored(3, 5), 1);
        x.drop(0, 0);
        due("of a drop", x.mirrored(6, 5), 1);
        refused("mirrored(2, 2)", () -> x.mirrored(2, 2), BAD);
        refused("mirrored(0, 9)", () -> x.mirrored(0, 9), BAD);
        refused("mirrored(-1, 0)", () -> x.mirrored(-1, 0), BAD);
        refused("of an ANCESTOR", () -> x.mirrored(0, 3), STATE);
        refused("to an ANCESTOR", () -> x.mirrored(3, 0), STATE);
        hugeCommon();
        refused("the COMMON too large", () -> x.mirrored(11, 12), SPENT);
        refused("too large", () -> x.mirrored(6, 5), SPENT);
    }

    // ---- 3 deeds

    private static void change() {
        start("a12 b3");
        fill(0, 9, 0, 9);
        due("change(0, 0, 0)", x.change(0, 0, 0), 1);
        due("its FILE", written(1, 0), "9 0 9");
        due("the other FILE", written(1, 1), "3");
        due("its PARENT's", written(0, 0), "1 2");
        due("its PARENT", trait(1, 1), 0);
        fill(0, 1);
        due("a FILE of its own", written(1, 0), "9 0 9");
        x.row(0, 0);
        due("no LINES, a missing FILE", x.change(1, 2, 0), 2);
        due("of no LINES", x.lines(2, 2), 0);
        due("eight of them", change(0, 1, 1, 2, 3, 4, 5, 6, 7, 8), 3);
        fill(2, 1, 2, 3, 4, 5, 6, 7, 8, 10);
        fill(3, 1, 2, 10);
        fill(4, -1, 2, 3, 4, 5, 6, 7, 8);
        refused("nine of them", () -> x.change(0, 0, 2), FINDING, SIZE);
        refused("no figure", () -> x.change(0, 0, 3), FINDING, UNLIKE);
        refused("no figure, either", () -> x.change(0, 0, 4), FINDING, UNLIKE);
        refused("no ROW", () -> x.change(0, 0, 1), FINDING, NOTHING);
        refused("change(4, 0, 1)", () -> x.change(4, 0, 1), BAD);
        refused("change(-1, 0, 1)", () -> x.change(-1, 0, 1), BAD);
        refused("change(0, 3, 1)", () -> x.change(0, 3, 1), BAD);
        refused("change(0, -1, 1)", () -> x.change(0, -1, 1), BAD);
        refused("change(0, 0, 6)", () -> x.change(0, 0, 6), BAD);
        refused("change(0, 0, -1)", () -> x.change(0, 0, -1), BAD);
        fillUp();
        refused("16 VERSIONS", () -> x.change(15, 0, 0), FULL);
        refused("16, no ROW", () -> x.change(15, 0, 1), FINDING, NOTHING);
        refused("16, nine of them", () -> x.change(15, 0, 2), FINDING, SIZE);
        refused("16, no figure", () -> x.change(15, 0, 3), FINDING, UNLIKE);
        tornOne();
        due("of a TORN one", change(3, 0, 7), 4);
        due("not TORN", trait(4, 4), 0);
        due("another FILE of a TORN one", change(3, 1, 7), 5);
        due("TORN still", trait(5, 4), 1);
    }

    /** VERSION 3: FILE 0, that 1 dropped and 2 changed, is TORN. */
    private static void tornOne() {
        start("a123");
        x.drop(0, 0);
        change(0, 0, 1, 2, 3, 4);
        x.merge(1, 2);
        due("TORN", trait(3, 4), 1);
        due("its LINES", written(3, 0), "1 2 3 4");
    }

    private static void drop() {
        start("a12 b3");
        due("drop(0, 0)", x.drop(0, 0), 1);
        due("missing", x.lines(1, 0), NONE);
        due("there still", x.lines(0, 0), 2);
        due("the other FILE", x.lines(1, 1), 1);
        due("its PARENT", trait(1, 1), 0);
        due("its KIND", trait(1, 0), 2);
        refused("it is missing", () -> x.drop(1, 0), STATE);
        refused("it was never there", () -> x.drop(0, 2), STATE);
        refused("drop(2, 0)", () -> x.drop(2, 0), BAD);
        refused("drop(-1, 0)", () -> x.drop(-1, 0), BAD);
        refused("drop(0, 3)", () -> x.drop(0, 3), BAD);
        refused("drop(0, -1)", () -> x.drop(0, -1), BAD);
        fillUp();
        refused("16 VERSIONS", () -> x.drop(0, 0), FULL);
        refused("16 VERSIONS, missing", () -> x.drop(1, 0), STATE);
        tornOne();
        due("of a TORN one", x.drop(3, 0), 4);
        due("not TORN", trait(4, 4), 0);
    }

    private static void settle() {
        start("a1233 b1");
        change(0, 0, 4, 2, 3, 5);
        change(0, 0, 6, 2, 3, 7, 8);
        x.merge(1, 2);
        due("CONFLICTS", written(3, 0), "10 4 11 1 12 6 13 2 3 10 5 11 3 12 7 8 13");
        due("settle(3, 0, 0)", x.settle(3, 0, 0), 4);
        due("by OURS", written(4, 0), "4 2 3 5");
        due("settle(3, 0, 1)", x.settle(3, 0, 1), 5);
        due("by BASE", written(5, 0), "1 2 3 3");
        due("settle(3, 0, 2)", x.settle(3, 0, 2), 6);
        due("by THEIRS", written(6, 0), "6 2 3 7 8");
        due("its PARENT", trait(6, 1), 3);
        due("the other FILE", written(6, 1), "1");
        refused("no CONFLICT", () -> x.settle(3, 1, 0), STATE);
        refused("missing", () -> x.settle(3, 2, 0), STATE);
        refused("settle(3, 0, 3)", () -> x.settle(3, 0, 3), BAD);
        refused("settle(3, 0, -1)", () -> x.settle(3, 0, -1), BAD);
        refused("settle(7, 0, 0)", () -> x.settle(7, 0, 0), BAD);
        refused("settle(-1, 0, 0)", () -> x.settle(-1, 0, 0), BAD);
        refused("settle(3, 3, 0)", () -> x.settle(3, 3, 0), BAD);
        refused("settle(3, -1, 0)", () -> x.settle(3, -1, 0), BAD);
        fillUp();
        refused("16 VERSIONS", () -> x.settle(3, 0, 0), FULL);
        refused("16, no CONFLICT", () -> x.settle(3, 1, 0), STATE);
        tornOne();
        due("a TORN one", x.settle(3, 0, 1), 4);
        due("not TORN", trait(4, 4), 0);
        due("its LINES", written(4, 0), "1 2 3 4");
        refused("TORN no more", () -> x.settle(4, 0, 1), STATE);
        nestedConflict();
        due("nested", x.settle(6, 0, 2), 7);
        due("those in it stay", written(7, 0), "10 2 11 1 12 3 13");
        due("once more", x.settle(7, 0, 1), 8);
        due("its BASE", written(8, 0), "1");
    }

    private static String mergedLines(String base, String ours, String theirs) {
        start("a" + base);
        change(0, 0, ours.chars().map(c -> c - '0').toArray());
        change(0, 0, theirs.chars().map(c -> c - '0').toArray());
        return x.merge(1, 2) == 3 ? written(3, 0).replace(" ", "").replace("10", "<").replace("13", ">")
                .replace("11", "|").replace("12", "|") : "refused";
    }

    private static void merge() {
        due("changes of both", mergedLines("45678", "40678", "45697"), "40697");
        due("the other way round", mergedLines("45678", "45697", "40678"), "40697");
        due("a change of one", mergedLines("456", "456", "4567"), "4567");
        due("like ones once", mergedLines("4", "45", "45"), "45");
        due("unlike ones beside each other", mergedLines("4", "45", "46"), "4<5||6>");
        due("LINES dropped on either side", mergedLines("456789", "56789", "45678"), "5678");
        due("a LINE dropped and changed", mergedLines("456", "46", "476"), "4<|5|7>6");
        due("all unlike", mergedLines("4", "5", "6"), "<5|4|6>");
        due("to nothing", mergedLines("4", "", "5"), "<|4|5>");
        due("of no LINES", mergedLines("", "5", "6"), "<5||6>");
        due("passes over BASE first", mergedLines("45", "54", "456"), "5<4||6>");
        missingBase();
        files();
        tornInMerges();
        crissCross();
        due("a KNOT", x.merge(3, 4), 5);
        due("over what never was", written(5, 0), "0 10 2 11 0 12 1 13 0");
        due("its PARENTS", trait(5, 1) * 10 + trait(5, 2), 34);
        refused("merge(1, 1)", () -> x.merge(1, 1), BAD);
        refused("merge(1, 6)", () -> x.merge(1, 6), BAD);
        refused("merge(-1, 1)", () -> x.merge(-1, 1), BAD);
        refused("of an ANCESTOR", () -> x.merge(0, 1), STATE);
        refused("to an ANCESTOR", () -> x.merge(5, 1), STATE);
        fillUp();
        refused("16 VERSIONS", () -> x.merge(1, 2), FULL);
        refused("16, of an ANCESTOR", () -> x.merge(0, 2), STATE);
        hugeCommon();
        refused("too large", () -> x.merge(5, 6), SPENT);
        refused("the COMMON too large", () -> x.merge(11, 12), SPENT);
        fillUp();
        refused("SPENT ahead of FULL", () -> x.merge(5, 6), SPENT);
        sizes();
    }

    private static void missingBase() {
        start("b");
        change(0, 0, 1, 2);
        change(0, 0, 1, 3);
        x.merge(1, 2);
        due("both made it: over no LINES", written(3, 0), "10 1 2 11 12 1 3 13");
        change(0, 0, 1, 2);
        due("both made a like one", x.merge(1, 4), 5);
        due("once", written(5, 0), "1 2");
    }

    private static void files() {
        start("a1b2c3");
        x.drop(0, 0);
        change(0, 1, 7);
        due("of either side", x.merge(1, 2), 3);
        due("dropped by us", written(3, 0), "answer -9");
        due("changed by them", written(3, 1), "7");
        due("kept by both", written(3, 2), "3");
        due("not TORN", trait(3, 4), 0);
        due("the other way round", x.merge(2, 1), 4);
        due("dropped by them", written(4, 0), "answer -9");
        x.drop(0, 0);
        due("dropped by both", x.merge(1, 5), 6);
        due("missing", written(6, 0), "answer -9");
        change(0, 0);
        due("dropped and emptied", x.merge(1, 7), 8);
        due("the emptied one", written(8, 0), "");
        due("TORN", trait(8, 4), 1);
    }

    private static void tornInMerges() {
        tornOne();
        change(3, 1, 5);
        change(3, 2, 6);
        due("TORN in both", x.merge(4, 5), 6);
        due("TORN still", trait(6, 4), 1);
        x.settle(3, 0, 0);
        due("TORN in one", x.merge(4, 7), 8);
        due("TORN still", trait(8, 4), 1);
        x.drop(3, 0);
        due("TORN in one, dropped by the other", x.merge(5, 9), 10);
        due("missing", x.lines(10, 0), NONE);
        due("not TORN", trait(10, 4), 0);
    }

    /** A FILE of 40 numbers is well, one of 41 is not. */
    private static void sizes() {
        start("a0");
        change(0, 0, 1, 1, 1, 1, 1, 1, 1, 1);
        change(0, 0, 2, 2, 2, 2, 2, 2, 2, 2);
        due("21", x.merge(1, 2), 3);
        due("numbers", x.file(3, 0, 0), 21);
        change(0, 0, 4, 4, 4, 4, 4, 4);
        change(0, 0, 5, 5, 5, 5);
        due("15", x.merge(4, 5), 6);
        due("numbers", x.file(6, 0, 0), 15);
        refused("21, 1, 15 and 4", () -> x.merge(3, 6), SPENT);
        x.undo(5);
        change(0, 0, 5, 5, 5);
        due("14", x.merge(4, 5), 6);
        due("numbers", x.file(6, 0, 0), 14);
        due("21, 1, 14 and 4", x.merge(3, 6), 7);
        due("numbers", x.file(7, 0, 0), 40);
        start("a07");
        change(0, 0, 1, 1, 1, 1, 1, 1, 1, 7);
        change(0, 0, 2, 2, 2, 2, 2, 2, 2, 7);
        change(0, 0, 4, 4, 4, 4, 4, 4, 7);
        change(0, 0, 5, 5, 5, 5, 7);
        due("LINES behind", x.merge(1, 2) + x.merge(3, 4), 11);
        due("19, 1, 15, 4 and 1", x.merge(5, 6), 7);
        due("numbers", x.file(7, 0, 0), 40);
        change(4, 0, 5, 5, 5, 5, 5, 7);
        due("one more", x.merge(3, 8), 9);
        refused("19, 1, 16, 4 and 1", () -> x.merge(5, 9), SPENT);
    }

    private static void undo() {
        refused("undo(1) of none", () -> x.undo(1), BAD);
        refused("undo(0) of none", () -> x.undo(0), BAD);
        crissCross();
        refused("undo(6)", () -> x.undo(6), BAD);
        refused("undo(0)", () -> x.undo(0), BAD);
        refused("undo(-1)", () -> x.undo(-1), BAD);
        due("undo(5)", x.undo(5), 0);
        due("undo(4)", x.undo(4), 1);
        due("VERSIONS", x.count(0), 4);
        refused("version(4, 0)", () -> x.version(4, 0), BAD);
        due("undo(1)", x.undo(1), 3);
        due("VERSIONS", x.count(0), 1);
        due("VERSION 0", written(0, 0), "0 0 0");
        due("no PARENT any more", x.count(4), 1);
        due("goes on", change(0, 0, 5), 1);
    }

    private static void keep() {
        refused("no VERSIONS", () -> x.keep(0), STATE);
        refused("keep(3) of none", () -> x.keep(3), BAD);
        crissCross();
        due("keep(0)", x.keep(0), 5);
        x.undo(2);
        due("keep(2)", x.keep(2), 2);
        due("kept BOOKS", x.count(10), 2);
        due("keep(0) again", x.keep(0), 2);
        due("kept BOOKS", x.count(10), 2);
        refused("keep(3)", () -> x.keep(3), BAD);
        refused("keep(-1)", () -> x.keep(-1), BAD);
        due("on(0)", x.on(0), 2);
    }

    private static void on() {
        crissCross();
        x.keep(1);
        x.tear(5);
        long digest = x.digest();
        x.undo(1);
        change(0, 0, 7, 7, 7);
        x.drop(1, 0);
        x.tear(5);
        due("on(1)", x.on(1), 5);
        due("all as kept", x.digest(), digest);
        due("FILE", written(1, 0), "0 1 0");
        change(4, 0, 9);
        x.undo(2);
        change(0, 0, 8);
        due("other VERSIONS", x.merge(2, 1), 3);
        change(2, 0, 7);
        due("on(1) again", x.on(1), 5);
        due("ANCESTORS of 4", x.ancestors(4), 0b10111);
        due("PARENTS of 3", trait(3, 1) * 10 + trait(3, 2), 12);
        due("PARENTS of 4", trait(4, 1) * 10 + trait(4, 2), 21);
        due("FILE of 2", written(2, 0), "0 2 0");
        refused("on(0)", () -> x.on(0), FINDING, NOTHING);
        refused("on(3)", () -> x.on(3), BAD);
        refused("on(-1)", () -> x.on(-1), BAD);
    }

    private static long lot(long seed) {
        return seed * 48271 % 2147483647;
    }

    private static int seedOf(java.util.function.LongPredicate wanted) {
        for (int seed = 1; seed < 1000000; seed++) {
            if (wanted.test(lot(seed))) {
                return seed;
            }
        }
        return 0;
    }

    private static void lots() {
        refused("no VERSIONS", () -> x.lots(1, 1), STATE);
        refused("lots(0, 1) of none", () -> x.lots(0, 1), BAD);
        start("a12");
        int seed = seedOf(it -> it % 4 != 0 && it / 4 % 3 == 0 && it / 1024 % 10 == 7 && it / 16384 % 3 == 1);
        due("a figure more", x.lots(1, seed), 2);
        due("at its place", written(1, 0), "1 7 2");
        seed = seedOf(it -> it % 4 != 0 && it / 4 % 3 == 1 && it / 64 % 2 == 1 && it / 1024 % 10 == 3);
        due("in a missing FILE", x.lots(1, seed), 3);
        due("at its place", written(2, 1), "3");
        due("of that VERSION", trait(2, 1), 1);
        change(0, 0, 1, 9, 2);
        seed = seedOf(it -> it % 4 == 0 && it / 64 % 4 == 2 && it / 4096 % 4 == 3);
        due("MERGED", x.lots(1, seed), 5);
        due("PARENTS", trait(4, 1) * 10 + trait(4, 2), 23);
        due("a CONFLICT", written(4, 0), "1 10 7 11 12 9 13 2");
        seed = seedOf(it -> it % 4 == 0 && it / 64 % 5 == 2 && it / 4096 % 5 == 2);
        due("one with itself: not", x.lots(1, seed), 5);
        seed = seedOf(it -> it % 4 == 0 && it / 64 % 5 == 2 && it / 4096 % 5 == 1);
        due("with an ANCESTOR: not", x.lots(1, seed), 5);
        seed = seedOf(it -> it % 4 != 0 && it / 64 % 5 == 4 && it / 4 % 3 == 0 && it / 4096 % 5 == 0);
        due("a CONFLICT is not CHANGED", x.lots(1, seed), 5);
        change(3, 0, 1, 2, 3, 4, 5, 6, 7, 8);
        seed = seedOf(it -> it % 4 != 0 && it / 64 % 6 == 5 && it / 4 % 3 == 0 && it / 4096 % 6 == 2);
        due("eight LINES: MERGED", x.lots(1, seed), 7);
        due("PARENTS", trait(6, 1) * 10 + trait(6, 2), 52);
        due("once", x.lots(1, 2147483646) >= 7, true);
        due("ten times", x.lots(10, 99) >= 7, true);
        refused("lots(0, 1)", () -> x.lots(0, 1), BAD);
        refused("lots(11, 1)", () -> x.lots(11, 1), BAD);
        refused("lots(1, 0)", () -> x.lots(1, 0), BAD);
        refused("lots(1, HIGHEST)", () -> x.lots(1, HIGHEST), BAD);
        refused("lots(1, -1)", () -> x.lots(1, -1), BAD);
        fillUp();
        long digest = x.digest();
        due("16 VERSIONS", x.lots(10, 5), 16);
        due("nothing is", x.digest(), digest);
        start("a12");
        int both = x.lots(2, 77);
        digest = x.digest();
        start("a12");
        x.lots(1, 77);
        due("one by one", x.lots(1, (int) lot(77)), both);
        due("the same", x.digest(), digest);
        tornOne();
        int again = seedOf(it -> it % 4 != 0 && it / 64 % 4 == 3 && it / 4 % 3 == 0);
        due("of a TORN one", x.lots(1, again), 5);
        due("not TORN", trait(4, 4), 0);
    }

    // ---- 4 lines, ways

    private static void unlike() {
        start("a1123 b34 c");
        due("unlike(0)", x.unlike(0), 4);
        refused("unlike(1)", () -> x.unlike(1), BAD);
        refused("unlike(-1)", () -> x.unlike(-1), BAD);
        start("");
        due("of none", x.unlike(0), 0);
        crissCross();
        due("a CONFLICT and a 0", x.unlike(3), 2);
    }

    private static void shared() {
        start("a112 b34");
        change(0, 2, 3, 3, 1, 9);
        x.drop(1, 0);
        change(2, 1, 5);
        due("in any FILES", x.shared(0, 3), 2);
        due("the other way round", x.shared(3, 0), 2);
        due("with itself", x.shared(0, 0), 4);
        refused("shared(0, 4)", () -> x.shared(0, 4), BAD);
        refused("shared(-1, 0)", () -> x.shared(-1, 0), BAD);
        crissCross();
        due("unlike CONFLICTS", x.shared(3, 4), 1);
        change(3, 1, 1);
        due("like CONFLICTS", x.shared(3, 5), 2);
    }

    private static void often() {
        start("a112 b13 c");
        told("often(0, 0, 1)", x.often(0, 0, 1), 3);
        told("often(0, 0, 2)", x.often(0, 0, 2), 1);
        told("often(0, 1, 0)", x.often(0, 1, 0), 3);
        refused("often(0, 0, 3)", () -> x.often(0, 0, 3), BAD);
        refused("often(0, 0, -1)", () -> x.often(0, 0, -1), BAD);
        refused("often(0, 2, 0)", () -> x.often(0, 2, 0), BAD);
        refused("often(1, 0, 0)", () -> x.often(1, 0, 0), BAD);
        refused("often(-1, 0, 0)", () -> x.often(-1, 0, 0), BAD);
        refused("often(0, 3, 0)", () -> x.often(0, 3, 0), BAD);
        refused("often(0, -1, 0)", () -> x.often(0, -1, 0), BAD);
        x.drop(0, 1);
        refused("missing", () -> x.often(1, 1, 0), BAD);
        crissCross();
        told("a CONFLICT", x.often(3, 0, 1), 1);
        told("beside it", x.often(3, 0, 2), 2);
    }

    private static void from() {
        start("a1 b2");
        change(0, 0, 1, 2);
        change(0, 0, 3, 1);
        change(2, 0, 3, 1, 2);
        due("of VERSION 0", x.from(3, 0, 1), 0);
        due("of its PARENT", x.from(3, 0, 0), 2);
        due("its own: 1 is no ANCESTOR, b is another FILE", x.from(3, 0, 2), 3);
        due("of VERSION 0 itself", x.from(0, 1, 0), 0);
        refused("from(3, 0, 3)", () -> x.from(3, 0, 3), BAD);
        refused("from(3, 0, -1)", () -> x.from(3, 0, -1), BAD);
        refused("from(3, 2, 0)", () -> x.from(3, 2, 0), BAD);
        refused("from(4, 0, 0)", () -> x.from(4, 0, 0), BAD);
        refused("from(-1, 0, 0)", () -> x.from(-1, 0, 0), BAD);
        refused("from(0, 3, 0)", () -> x.from(0, 3, 0), BAD);
        refused("from(0, -1, 0)", () -> x.from(0, -1, 0), BAD);
        crissCross();
        change(3, 1, 5);
        due("a CONFLICT", x.from(5, 0, 1), 3);
    }

    private static void apart() {
        start("a12345 b6");
        change(0, 0, 5, 1, 2, 3);
        due("apart(0, 1)", x.apart(0, 1), 3);
        due("apart(1, 0)", x.apart(1, 0), 3);
        due("from itself", x.apart(1, 1), 0);
        x.drop(1, 1);
        due("a missing one has none", x.apart(0, 2), 4);
        change(0, 2, 6, 6);
        due("FILE by FILE", x.apart(2, 3), 6);
        refused("apart(0, 4)", () -> x.apart(0, 4), BAD);
        refused("apart(-1, 0)", () -> x.apart(-1, 0), BAD);
        crissCross();
        due("a CONFLICT is one", x.apart(3, 0), 2);
        due("unlike CONFLICTS", x.apart(3, 4), 2);
    }

    private static void ways() {
        crissCross();
        x.merge(3, 4);
        change(5, 0, 1);
        int[] ways = {1, 1, 1, 2, 2, 4, 4};
        for (int v = 0; v < ways.length; v++) {
            due("ways(" + v + ")", x.ways(v), ways[v]);
        }
        refused("ways(7)", () -> x.ways(7), BAD);
        refused("ways(-1)", () -> x.ways(-1), BAD);
    }

    private static void chance(int v, int by, long upper, long lower) {
        due("odds(" + v + ", " + by + ")", x.odds(v, by), 1);
        due("upper() of odds(" + v + ", " + by + ")", x.upper(), upper);
        due("lower() of odds(" + v + ", " + by + ")", x.lower(), lower);
    }

    private static void odds() {
        threeCross();
        chance(6, 6, 1, 1);
        chance(6, 0, 1, 1);
        chance(6, 3, 1, 2);
        chance(6, 2, 1, 4);
        chance(6, 4, 1, 2);
        chance(6, 5, 0, 1);
        chance(2, 6, 0, 1);
        chance(1, 2, 0, 1);
        chance(0, 0, 1, 1);
        x.merge(6, 7);
        chance(8, 1, 3, 8);
        chance(8, 2, 1, 4);
        chance(8, 3, 3, 8);
        refused("odds(9, 0)", () -> x.odds(9, 0), BAD);
        refused("odds(0, 9)", () -> x.odds(0, 9), BAD);
        refused("odds(-1, 0)", () -> x.odds(-1, 0), BAD);
        refused("odds(0, -1)", () -> x.odds(0, -1), BAD);
    }

    // ---- 5 what is told

    private static void asked() {
        due("before", x.asked(), 0);
        fill(0, 3, 5);
        due("of lay()", x.asked(), 0);
        x.lay(0, 0, 9);
        due("of lay(): what it was", x.asked(), 3);
        x.at(0, 1);
        due("of at()", x.asked(), 5);
        x.mean(0);
        due("of mean()", x.asked(), 7);
        x.at(0, 2);
        due("a refused one tells nothing", x.asked(), 7);
        write(0, "a11");
        x.book(0);
        due("of others: nothing", x.asked(), 7);
        x.version(0, 1);
        due("of version()", x.asked(), NONE);
        x.mark(0, 1);
        due("of mark()", x.asked(), 1);
        x.often(0, 0, 0);
        due("of often()", x.asked(), 2);
        x.lines(0, 0);
        x.file(0, 0, 1);
        x.apart(0, 0);
        x.odds(0, 0);
        x.count(0);
        x.digest();
        due("of others: nothing", x.asked(), 2);
        x.drop(0, 0);
        change(0, 0, 3);
        x.would(1, 2);
        due("of would(): TORN ones", x.asked(), 1);
        x.at(0, 0);
        x.would(0, 1);
        due("of a refused would()", x.asked(), 9);
    }

    private static void upper() {
        due("before", x.upper(), 0);
        crissCross();
        x.merge(3, 4);
        x.odds(5, 1);
        due("told last", x.upper(), 1);
        x.odds(1, 2);
        due("none", x.upper(), 0);
        x.odds(5, 3);
        x.odds(9, 9);
        due("a refused one tells nothing", x.upper(), 1);
    }

    private static void lower() {
        due("before", x.lower(), 1);
        crissCross();
        x.merge(3, 4);
        x.odds(5, 1);
        due("in lowest terms", x.lower(), 2);
        x.odds(9, 9);
        due("a refused one tells nothing", x.lower(), 2);
        x.odds(1, 2);
        due("0 by 1", x.lower(), 1);
    }

    private static void count() {
        crissCross();
        x.merge(3, 4);
        x.drop(3, 0);
        change(3, 0, 5);
        x.merge(6, 7);
        change(0, 1, 1, 1);
        x.keep(1);
        x.row(0, 3);
        int[] due = {10, 5, 4, 1, 0b1100100000, 3, 1, 3 * 6 + 0 + 1 + 1 + 3 + 2, 2, 1, 1};
        for (int what = 0; what <= 10; what++) {
            due("count(" + what + ")", x.count(what), due[what]);
        }
        refused("count(11)", () -> x.count(11), BAD);
        refused("count(-1)", () -> x.count(-1), BAD);
        nestedConflict();
        due("CONFLICTS, not those in others", x.count(5), 3);
    }

    private static void finding() {
        due("before", x.finding(), 0);
        x.row(9, 9);
        due("BAD is none", x.finding(), 0);
        x.at(0, 0);
        due("NOTHING", x.finding(), 1);
        x.row(0, 0);
        due("stays", x.finding(), 1);
        x.at(0, 0);
        due("BEYOND", x.finding(), 2);
        x.mean(0);
        due("NOUGHT", x.finding(), 4);
        x.row(0, -1);
        due("SIZE", x.finding(), 5);
        write(0, "");
        x.book(0);
        x.mark(0, 4);
        due("UNLIKE", x.finding(), 3);
        x.merge(0, 0);
        x.undo(0);
        due("stays", x.finding(), 3);
    }

    private static void findings() {
        for (int f = 1; f <= 5; f++) {
            due("before", x.findings(f), 0);
        }
        x.at(0, 0);
        x.tear(0);
        x.row(0, 0);
        x.at(0, 0);
        x.mean(0);
        x.mean(0);
        x.mean(0);
        x.row(0, -1);
        due("NOTHING", x.findings(1), 2);
        due("BEYOND", x.findings(2), 1);
        due("UNLIKE", x.findings(3), 0);
        due("NOUGHT", x.findings(4), 3);
        due("SIZE", x.findings(5), 1);
        write(0, "");
        x.book(0);
        x.mark(0, 2);
        due("UNLIKE", x.findings(3), 1);
        refused("findings(0)", () -> x.findings(0), BAD);
        refused("findings(6)", () -> x.findings(6), BAD);
        refused("findings(-1)", () -> x.findings(-1), BAD);
        refused("findings(LOWEST)", () -> x.findings(LOWEST), BAD);
    }

    private static void digest() {
        crissCross();
        x.merge(3, 4);
        x.keep(1);
        fill(0, 5, -6);
        x.put(0, 1, -3);
        long h = 17;
        for (int what = 0; what <= 10; what++) {
            h = 31 * h + x.count(what);
        }
        int[][] files = {{0, 0, 0}, {0, 1, 0}, {0, 2, 0}, {0, 10, 1, 11, 0, 12, 2, 13, 0},
            {0, 10, 2, 11, 0, 12, 1, 13, 0}, {0, 10, 2, 11, 0, 12, 1, 13, 0}};
        for (int v = 0; v < 6; v++) {
            for (int what = 0; what <= 6; what++) {
                h = 31 * h + trait(v, what);
            }
            h = 31 * h + files[v].length;
            for (int number : files[v]) {
                h = 31 * h + number;
            }
            h = 31 * (31 * h - 1) - 1;
        }
        int[] rest = {-1, 6, -1, 2, 5, -6, -1, -1, -1, -1, 3, 0, 2, 0, 4, 97, -3, 48, 48, -1, -1, -1};
        for (int number : rest) {
            h = 31 * h + number;
        }
        x.at(0, 1);
        due("digest()", x.digest(), h);
        due("asked() stays", x.asked(), -6);
        x.lay(0, 0, 6);
        due("another one", x.digest() != h, true);
    }
}
