import java.lang.reflect.InvocationTargetException;
import java.lang.reflect.Method;
import java.math.BigInteger;
import java.util.ArrayList;
import java.util.HashMap;
import java.util.List;
import java.util.Map;
import java.util.StringJoiner;
import java.util.function.LongPredicate;

/**
 * How the tests of single sentences ask. A call is told as it is written, "lay(0, 1, 7)", and kept, so that a twin of
 * the object can be made by the same calls: what is looked at on a twin leaves the object as it is.
 */
abstract class Edges {
    static final int BAD = -1, FULL = -2, FINDING = -3, STATE = -4, SPENT = -6, NONE = -9;
    static final int NOTHING = 1, BEYOND = 2, UNLIKE = 3, NOUGHT = 4, SIZE = 5;
    static final int LOWEST = Integer.MIN_VALUE, HIGHEST = Integer.MAX_VALUE;
    static final String MISSING = "missing";
    /** What later calls of an object answer is free. */
    private static final int MOST_CALLS = 512;
    private static final Map<String, Method> FACE = face();

    /** The sentences that have a test: the promise's number, a blank, the document's words. */
    static final List<String> quotes = new ArrayList<>();
    static int answers = 0;
    static int wrong = 0;
    private static String sentence = "";
    private static Desk desk = new Desk();

    private static Map<String, Method> face() {
        Map<String, Method> face = new HashMap<>();
        for (Method method : CrissMerger.class.getDeclaredMethods()) {
            face.put(method.getName(), method);
        }
        return face;
    }

    /** An object and what it was asked. */
    private static final class Desk {
        final CrissMerger object = new CrissMerger();
        final List<String> calls = new ArrayList<>();

        long ask(String call) {
            calls.add(call);
            if (calls.size() > MOST_CALLS) {
                say(call, "is one call too many for a test");
            }
            int open = call.indexOf('(');
            String inner = call.substring(open + 1, call.length() - 1);
            String[] words = inner.isEmpty() ? new String[0] : inner.split(", ");
            Object[] numbers = new Object[words.length];
            for (int i = 0; i < words.length; i++) {
                numbers[i] = Integer.valueOf(words[i]);
            }
            try {
                return ((Number) FACE.get(call.substring(0, open)).invoke(object, numbers)).longValue();
            } catch (InvocationTargetException e) {
                say(call, "threw " + e.getCause());
                return Long.MIN_VALUE;
            } catch (IllegalAccessException e) {
                throw new IllegalStateException(e);
            }
        }

        Desk twin() {
            Desk twin = new Desk();
            for (String call : calls) {
                twin.ask(call);
            }
            return twin;
        }
    }

    // ---- sentences

    /** A test of one sentence of a promise, or of the terms that the promise's call is told with; on a new object. */
    static void sentence(int promise, String words, Runnable test) {
        quotes.add(promise + " " + words);
        sentence = "promise " + promise + ", \"" + words + "\"";
        anew();
        test.run();
        anew();
    }

    /** A new object; what the old one came to is digested once more by its calls. */
    static void anew() {
        if (!desk.calls.isEmpty()) {
            same("digest() by what the calls tell", desk.twin().ask("digest()"), digestByCalls());
        }
        desk = new Desk();
    }

    private static void say(String what, String fault) {
        wrong++;
        System.out.println(sentence + ": " + what + " " + fault);
    }

    static void same(String what, Object got, Object want) {
        answers++;
        if (!got.equals(want)) {
            say(what, "answered " + got + ", due is " + want);
        }
    }

    // ---- calls and what is due

    static long ask(String call) {
        return desk.ask(call);
    }

    static void due(String call, long want) {
        same(call, ask(call), want);
    }

    /** A call that answers and changes nothing. */
    static void quiet(String call, long want) {
        List<String> before = whole();
        due(call, want);
        same(call + ", all behind it", whole(), before);
    }

    /** A call that answers 1, tells a number by asked(), and changes nothing but what it tells. */
    static void told(String call, long want) {
        List<String> before = whole();
        due(call, 1);
        before.set(1, Long.toString(want));
        same(call + ", all behind it, asked() second", whole(), before);
    }

    /** A call that makes VERSIONS come or go: what is told, the FINDINGS and what is kept stay. */
    static void deed(String call, long want) {
        List<String> before = whole();
        due(call, want);
        List<String> behind = whole();
        same(call + ", all but the BOOK behind it", behind.subList(1, behind.size()), before.subList(1, before.size()));
    }

    static void refused(String call, int answer) {
        quiet(call, answer);
    }

    /** A call refused by a FINDING, which changes finding() and findings() alone. */
    static void found(String call, int finding) {
        List<String> before = whole();
        due(call, FINDING);
        before.set(4, Integer.toString(finding));
        before.set(4 + finding, Long.toString(Long.parseLong(before.get(4 + finding)) + 1));
        same(call + ", all behind it, finding() and findings() fifth and on", whole(), before);
    }

    /** All that can be seen of the object: digest(), what is told, FINDINGS, and what is kept. */
    private static List<String> whole() {
        Desk twin = desk.twin();
        List<String> all = new ArrayList<>();
        for (String call : List.of("digest()", "asked()", "upper()", "lower()", "finding()", "findings(1)",
                "findings(2)", "findings(3)", "findings(4)", "findings(5)")) {
            all.add(Long.toString(twin.ask(call)));
        }
        for (int k = 0; k <= 2; k++) {
            all.add(twin.ask("on(" + k + ")") < 0 ? MISSING : Long.toString(twin.ask("digest()")));
        }
        return all;
    }

    // ---- what is there, looked at on a twin

    private static String places(Desk twin, int r) {
        StringJoiner out = new StringJoiner(" ");
        if (twin.ask("at(" + r + ", 0)") == FINDING && twin.ask("finding()") == NOTHING) {
            return MISSING;
        }
        for (int i = 0; twin.ask("at(" + r + ", " + i + ")") == 1; i++) {
            out.add(Long.toString(twin.ask("asked()")));
        }
        return out.toString();
    }

    static void rowIs(int r, String want) {
        same("ROW " + r, places(desk.twin(), r), want);
    }

    private static String signs(Desk twin, int t) {
        StringJoiner out = new StringJoiner(" ");
        if (twin.ask("put(" + t + ", 0, 0)") == FINDING && twin.ask("finding()") == NOTHING) {
            return MISSING;
        }
        twin = desk.twin();
        for (int i = 0; i < 60; i++) {
            long was = twin.ask("put(" + t + ", " + i + ", 0)");
            if (was == FINDING) {
                break;
            }
            out.add(Long.toString(was - 1000));
        }
        return out.toString();
    }

    static void textIs(int t, String want) {
        same("TEXT " + t, signs(desk.twin(), t), want);
    }

    private static String numbers(Desk twin, String call) {
        long size = twin.ask(call);
        if (size == NONE) {
            return MISSING;
        }
        String numbers = size < 0 ? "refused " + size : places(twin, 0);
        if (size >= 0 && sizeOf(numbers) != size) {
            say(call, "answered " + size + ", but wrote " + numbers);
        }
        return numbers;
    }

    /** What a FILE of a VERSION is WRITTEN OUT. */
    static void fileIs(long v, int f, String want) {
        same("FILE " + f + " of " + v, fileOf(v, f), want);
    }

    static String fileOf(long v, int f) {
        return numbers(desk.twin(), "file(" + v + ", " + f + ", 0)");
    }

    static void commonIs(int a, int b, int f, String want) {
        same("FILE " + f + " of the COMMON of " + a + ", " + b,
                numbers(desk.twin(), "common(" + a + ", " + b + ", " + f + ", 0)"), want);
    }

    /** What version() tells of a VERSION. */
    static void traitIs(long v, int what, long want) {
        Desk twin = desk.twin();
        String call = "version(" + v + ", " + what + ")";
        same(call, twin.ask(call), 1L);
        same(call + ", asked()", twin.ask("asked()"), want);
    }

    // ---- the digest once more

    private static int sizeOf(String numbers) {
        return numbers.equals(MISSING) ? -1 : numbers.isEmpty() ? 0 : numbers.split(" ").length;
    }

    private static long digestOf(long start, String numbers) {
        long h = 31 * start + sizeOf(numbers);
        if (sizeOf(numbers) > 0) {
            for (String number : numbers.split(" ")) {
                h = 31 * h + Long.parseLong(number);
            }
        }
        return h;
    }

    static long digestByCalls() {
        long h = 17;
        Desk twin = desk.twin();
        for (int what = 0; what <= 10; what++) {
            h = 31 * h + twin.ask("count(" + what + ")");
        }
        long versions = twin.ask("count(0)");
        for (int v = 0; v < versions; v++) {
            twin = desk.twin();
            for (int what = 0; what <= 6; what++) {
                twin.ask("version(" + v + ", " + what + ")");
                h = 31 * h + twin.ask("asked()");
            }
            for (int f = 0; f <= 2; f++) {
                h = digestOf(h, fileOf(v, f));
            }
        }
        for (int k = 0; k <= 2; k++) {
            long kept = desk.twin().ask("on(" + k + ")");
            h = 31 * h + (kept == FINDING ? -1 : kept);
        }
        for (int r = 0; r <= 5; r++) {
            h = digestOf(h, places(desk.twin(), r));
        }
        for (int t = 0; t <= 3; t++) {
            h = digestOf(h, signs(desk.twin(), t));
        }
        return h;
    }

    // ---- what tests begin with

    static void write(int t, String signs) {
        ask("text(" + t + ", " + signs.length() + ")");
        for (int i = 0; i < signs.length(); i++) {
            if (signs.charAt(i) != ' ') {
                ask("put(" + t + ", " + i + ", " + (int) signs.charAt(i) + ")");
            }
        }
    }

    /** A new object with VERSION 0 by TEXT 0. */
    static void start(String signs) {
        anew();
        write(0, signs);
        ask("book(0)");
    }

    static void fill(int r, int... numbers) {
        ask("row(" + r + ", " + numbers.length + ")");
        for (int i = 0; i < numbers.length; i++) {
            if (numbers[i] != 0) {
                ask("lay(" + r + ", " + i + ", " + numbers[i] + ")");
            }
        }
    }

    private static int[] figures(String figures) {
        return figures.chars().map(c -> c - '0').toArray();
    }

    /** Of a PARENT a FILE is CHANGED to figures, by ROW 5: the VERSION's number. */
    static long change(long v, int f, String figures) {
        fill(5, figures(figures));
        return ask("change(" + v + ", " + f + ", 5)");
    }

    static long merge(long a, long b) {
        return ask("merge(" + a + ", " + b + ")");
    }

    static void fillUp() {
        ask("row(5, 0)");
        for (long n = ask("count(0)"); n < 16; n++) {
            ask("change(0, 2, 5)");
        }
    }

    /** a 000, crossed by 010 and 020: VERSIONS 3 and 4 merge 1 and 2 either way round. */
    static void crissCross() {
        start("a000");
        change(0, 0, "010");
        change(0, 0, "020");
        merge(1, 2);
        merge(2, 1);
    }

    /** VERSION 3: FILE 0, that 1 dropped and 2 changed to 1234, is TORN. */
    static void tornOne() {
        start("a123");
        ask("drop(0, 0)");
        change(0, 0, "1234");
        merge(1, 2);
    }

    /** VERSION 7: all FILES, that 3 dropped and 6 changed, are TORN. */
    static void tornAll() {
        start("a1b1c1");
        for (int f = 0; f <= 2; f++) {
            ask("drop(" + f + ", " + f + ")");
        }
        change(0, 0, "5");
        change(4, 1, "5");
        change(5, 2, "5");
        merge(3, 6);
    }

    /** VERSION 5, of 2 and 4: the same CONFLICT in FILES 0 and 1; FILE 2 is a 1. */
    static void likeConflicts() {
        start("a1b1c1");
        change(0, 0, "2");
        change(1, 1, "2");
        change(0, 0, "3");
        change(3, 1, "3");
        merge(2, 4);
    }

    /** VERSIONS 7 and 8 merge 5 and 6 either way round, whose COMMON never was a VERSION. */
    static void crossOfCrosses() {
        start("a1");
        change(0, 0, "2");
        change(0, 0, "3");
        merge(1, 2);
        merge(2, 1);
        change(3, 0, "4");
        change(4, 0, "5");
        merge(5, 6);
        merge(6, 5);
    }

    /** Crossed again and again: 3 and 4 merge 1 and 2 either way round, and so on; 15 merges 13 and 14. */
    static void ladder() {
        start("a");
        change(0, 1, "1");
        change(0, 2, "2");
        for (int v = 1; v <= 11; v += 2) {
            merge(v, v + 1);
            merge(v + 1, v);
        }
        merge(13, 14);
    }

    /**
     * VERSIONS 9 and 12 have the NEAREST 3 and 6, whose FILE 0 MERGED comes to 37 numbers and as many as 5 has LINES
     * (1 .. 8): more than 40 with more than 3 of them.
     */
    static void longCommon(String linesOf5) {
        start("a0 b7");
        change(0, 0, "11111111");
        change(0, 0, "22222222");
        merge(1, 2);
        change(0, 0, "444444");
        change(0, 0, linesOf5);
        merge(4, 5);
        change(3, 0, "9");
        change(6, 0, "9");
        merge(7, 8);
        change(3, 0, "8");
        change(6, 0, "8");
        merge(10, 11);
        same("NEAREST of 9 and 12", desk.twin().ask("nearest(9, 12)"), 0b1001000L);
    }

    /** The seed by whose LOTS a wanted number comes first: the lowest such number from one on. */
    static long seedFor(long from, LongPredicate wanted) {
        BigInteger modulus = BigInteger.valueOf(2147483647);
        for (long it = from; it < from + 1000000 && it < 2147483647; it++) {
            if (wanted.test(it)) {
                BigInteger back = BigInteger.valueOf(48271).modInverse(modulus);
                return BigInteger.valueOf(it).multiply(back).mod(modulus).longValue();
            }
        }
        throw new IllegalStateException("no such number");
    }
}
