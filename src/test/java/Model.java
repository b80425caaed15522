import java.util.ArrayList;
import java.util.Arrays;
import java.util.LinkedHashSet;
import java.util.List;
import java.util.Set;
import java.util.TreeSet;

/**
 * The document again, in another way: LINES are objects within one another, VERSIONS never change,
 * chances are fractions, matches are counted by trying. Slow, and with the whole Java library.
 */
final class Model {
    static final int BAD = -1, FULL = -2, FINDING = -3, STATE = -4, SPENT = -6, NONE = -9;

    interface Line { }
    record Figure(int figure) implements Line { }
    record Conflict(List<Line> ours, List<Line> base, List<Line> theirs) implements Line { }
    record Content(List<List<Line>> files, Set<Integer> torn) { }
    record Version(List<Integer> parents, Content content) { }
    record Fraction(long upper, long lower) { }

    static final class Spent extends RuntimeException { }

    final int[][] rows = new int[6][];
    final byte[][] texts = new byte[4][];
    List<Version> book = new ArrayList<>();
    final List<List<Version>> kept = new ArrayList<>(Arrays.asList(null, null, null));
    int asked = 0;
    Fraction chance = new Fraction(0, 1);
    int finding = 0;
    final int[] findings = new int[6];

    private int find(int f) {
        finding = f;
        findings[f]++;
        return FINDING;
    }

    private int tell(int v) {
        asked = v;
        return 1;
    }

    private static boolean in(int v, int low, int high) {
        return low <= v && v <= high;
    }

    private boolean is(int... versions) {
        return Arrays.stream(versions).allMatch(v -> in(v, 0, book.size() - 1));
    }

    // ---- 1

    int row(int r, int n) {
        if (!in(r, 0, 5) || n > 40) return BAD;
        if (n < 0) return find(5);
        rows[r] = new int[n];
        return n;
    }

    int lay(int r, int i, int v) {
        int answer = at0(r, i);
        if (answer == 0) {
            tell(rows[r][i]);
            rows[r][i] = v;
            return 1;
        }
        return answer;
    }

    int at(int r, int i) {
        int answer = at0(r, i);
        return answer == 0 ? tell(rows[r][i]) : answer;
    }

    private int at0(int r, int i) {
        if (!in(r, 0, 5)) return BAD;
        if (rows[r] == null) return find(1);
        return in(i, 0, rows[r].length - 1) ? 0 : find(2);
    }

    int tear(int r) {
        if (!in(r, 0, 5)) return BAD;
        if (rows[r] == null) return find(1);
        rows[r] = null;
        return 1;
    }

    int copy(int r, int i, int to, int j, int n) {
        if (!in(r, 0, 5) || !in(to, 0, 5)) return BAD;
        if (n < 0) return find(5);
        if (rows[r] == null || rows[to] == null) return find(1);
        if (i < 0 || j < 0 || (long) i + n > rows[r].length || (long) j + n > rows[to].length) return find(2);
        int[] taken = Arrays.copyOfRange(rows[r], i, i + n);
        for (int k = 0; k < n; k++) rows[to][j + k] = taken[k];
        return 1;
    }

    int mean(int r) {
        if (!in(r, 0, 5)) return BAD;
        if (rows[r] == null) return find(1);
        if (rows[r].length == 0) return find(4);
        return tell((int) (Arrays.stream(rows[r]).asLongStream().sum() / rows[r].length));
    }

    int text(int t, int n) {
        if (!in(t, 0, 3) || n > 60) return BAD;
        if (n < 0) return find(5);
        texts[t] = new byte[n];
        Arrays.fill(texts[t], (byte) 32);
        return n;
    }

    int put(int t, int i, int v) {
        if (!in(t, 0, 3)) return BAD;
        if (texts[t] == null) return find(1);
        if (!in(i, 0, texts[t].length - 1)) return find(2);
        int was = texts[t][i];
        texts[t][i] = (byte) v;
        return was + 1000;
    }

    /** A FAULT is the end of the longest beginning that is well: each beginning is tried by a pattern. */
    private static int faultOf(byte[] text) {
        String signs = new String(text, java.nio.charset.StandardCharsets.ISO_8859_1);
        for (int n = 1; n <= signs.length(); n++) {
            String begin = signs.substring(0, n);
            boolean well = begin.matches("( *[abc][0-9]{0,8})* *");
            for (char c = 'a'; c <= 'c'; c++) {
                well &= begin.indexOf(c) == begin.lastIndexOf(c);
            }
            if (!well) return n - 1;
        }
        return NONE;
    }

    int fault(int t) {
        if (!in(t, 0, 3)) return BAD;
        return texts[t] == null ? find(1) : faultOf(texts[t]);
    }

    int book(int t) {
        if (!in(t, 0, 3)) return BAD;
        if (texts[t] == null) return find(1);
        if (faultOf(texts[t]) != NONE) return STATE;
        String signs = new String(texts[t], java.nio.charset.StandardCharsets.ISO_8859_1);
        List<List<Line>> files = new ArrayList<>();
        for (char c = 'a'; c <= 'c'; c++) {
            int at = signs.indexOf(c);
            List<Line> file = at < 0 ? null : new ArrayList<>();
            for (int i = at + 1; at >= 0 && i < signs.length() && Character.isDigit(signs.charAt(i)); i++) {
                file.add(new Figure(signs.charAt(i) - '0'));
            }
            files.add(file);
        }
        book = new ArrayList<>();
        book.add(new Version(List.of(), new Content(files, Set.of())));
        for (int k = 0; k < 3; k++) kept.set(k, null);
        return (int) files.stream().filter(f -> f != null).count();
    }

    private int kind(int v) {
        List<Integer> parents = book.get(v).parents();
        if (parents.size() < 2) return 1 + parents.size();
        return nearestSet(parents.get(0), parents.get(1)).size() > 1 ? 4 : 3;
    }

    private static int depth(List<Line> lines) {
        int deepest = 0;
        if (lines != null) {
            for (Line line : lines) {
                if (line instanceof Conflict c) {
                    deepest = Math.max(deepest, 1 + Math.max(depth(c.ours()), Math.max(depth(c.base()), depth(c.theirs()))));
                }
            }
        }
        return deepest;
    }

    private static int conflicts(Content content) {
        int n = 0;
        for (List<Line> file : content.files()) {
            if (file != null) n += (int) file.stream().filter(l -> l instanceof Conflict).count();
        }
        return n;
    }

    private static int bits(Iterable<Integer> set) {
        int bits = 0;
        for (int v : set) bits |= 1 << v;
        return bits;
    }

    private int trait(int v, int what) {
        Version version = book.get(v);
        Content c = version.content();
        return switch (what) {
            case 0 -> kind(v);
            case 1, 2 -> version.parents().size() < what ? NONE : version.parents().get(what - 1);
            case 3 -> {
                Set<Integer> there = new TreeSet<>();
                for (int f = 0; f < 3; f++) if (c.files().get(f) != null) there.add(f);
                yield bits(there);
            }
            case 4 -> bits(c.torn());
            case 5 -> conflicts(c);
            default -> c.files().stream().mapToInt(Model::depth).max().getAsInt();
        };
    }

    int version(int v, int what) {
        return is(v) && in(what, 0, 6) ? tell(trait(v, what)) : BAD;
    }

    int mark(int v, int kind) {
        if (!is(v) || !in(kind, 1, 4)) return BAD;
        int own = kind(v);
        List<Integer> parents = book.get(v).parents();
        if (kind == 1 && own == 1) return tell(Integer.bitCount(trait(v, 3)));
        if (kind == 2 && own == 2) return tell(apart(v, parents.get(0)));
        if (kind == 3 && own >= 3) return tell(bits(nearestSet(parents.get(0), parents.get(1))));
        if (kind == 4 && own == 4) return tell(nearestSet(parents.get(0), parents.get(1)).size());
        return find(3);
    }

    private static List<Integer> written(List<Line> lines) {
        List<Integer> out = new ArrayList<>();
        for (Line line : lines) {
            if (line instanceof Figure f) {
                out.add(f.figure());
            } else if (line instanceof Conflict c) {
                out.add(10);
                out.addAll(written(c.ours()));
                out.add(11);
                out.addAll(written(c.base()));
                out.add(12);
                out.addAll(written(c.theirs()));
                out.add(13);
            }
        }
        return out;
    }

    private int writeTo(List<Line> file, int r) {
        if (file == null) return NONE;
        rows[r] = written(file).stream().mapToInt(i -> i).toArray();
        return rows[r].length;
    }

    int file(int v, int f, int r) {
        return is(v) && in(f, 0, 2) && in(r, 0, 5) ? writeTo(book.get(v).content().files().get(f), r) : BAD;
    }

    int lines(int v, int f) {
        if (!is(v) || !in(f, 0, 2)) return BAD;
        List<Line> file = book.get(v).content().files().get(f);
        return file == null ? NONE : file.size();
    }

    // ---- 2

    private Set<Integer> ancestorSet(int v) {
        Set<Integer> all = new TreeSet<>(List.of(v));
        for (int p : book.get(v).parents()) all.addAll(ancestorSet(p));
        return all;
    }

    private List<Integer> nearestSet(int a, int b) {
        Set<Integer> both = ancestorSet(a);
        both.retainAll(ancestorSet(b));
        List<Integer> nearest = new ArrayList<>();
        for (int x : both) {
            if (both.stream().noneMatch(y -> y != x && ancestorSet(y).contains(x))) nearest.add(x);
        }
        return nearest;
    }

    private Content commonContent(int a, int b) {
        List<Integer> nearest = nearestSet(a, b);
        Content common = book.get(nearest.get(0)).content();
        for (int i = 1; i < nearest.size(); i++) {
            int before = nearest.get(i - 1);
            int next = nearest.get(i);
            common = mergeContents(common, book.get(next).content(), commonContent(before, next), false);
        }
        return common;
    }

    private static boolean same(List<Line> a, List<Line> b) {
        return a == null ? b == null : a.equals(b);
    }

    private static Content mergeContents(Content ours, Content theirs, Content base, boolean turned) {
        List<List<Line>> files = new ArrayList<>();
        Set<Integer> torn = new TreeSet<>();
        for (int f = 0; f < 3; f++) {
            List<Line> o = ours.files().get(f);
            List<Line> t = theirs.files().get(f);
            List<Line> b = base.files().get(f);
            List<Line> out;
            if (same(o, t)) {
                out = o;
            } else if (same(o, b)) {
                out = t;
            } else if (same(t, b)) {
                out = o;
            } else if (o == null) {
                out = t;
                torn.add(f);
            } else if (t == null) {
                out = o;
                torn.add(f);
            } else {
                out = mergeLines(o, t, b == null ? List.of() : b, turned);
            }
            if (out != null && (ours.torn().contains(f) || theirs.torn().contains(f))) torn.add(f);
            if (out != null && written(out).size() > 40) throw new Spent();
            files.add(out);
        }
        return new Content(files, torn);
    }

    static int matchable(List<Line> a, List<Line> b) {
        int[] last = new int[b.size() + 1];
        for (Line x : a) {
            int[] next = new int[b.size() + 1];
            for (int j = 1; j <= b.size(); j++) {
                next[j] = x.equals(b.get(j - 1)) ? last[j - 1] + 1 : Math.max(last[j], next[j - 1]);
            }
            last = next;
        }
        return last[b.size()];
    }

    private static <T> List<T> behind(List<T> list, int from) {
        return list.subList(from, list.size());
    }

    /** For each LINE of base its place in side, or -1: by the document's words, counting anew at each step. */
    private static List<Integer> matches(List<Line> base, List<Line> side) {
        List<Integer> partners = new ArrayList<>();
        int j = 0;
        while (partners.size() < base.size()) {
            int i = partners.size();
            if (j == side.size()) {
                partners.add(-1);
            } else if (base.get(i).equals(side.get(j))) {
                partners.add(j++);
            } else if (matchable(behind(base, i + 1), behind(side, j)) == matchable(behind(base, i), behind(side, j))) {
                partners.add(-1);
            } else {
                j++;
            }
        }
        return partners;
    }

    private static List<Line> mergeLines(List<Line> ours, List<Line> theirs, List<Line> base, boolean turned) {
        List<Integer> mo = matches(base, ours);
        List<Integer> mt = matches(base, theirs);
        List<int[]> stays = new ArrayList<>();
        for (int i = 0; i < base.size(); i++) {
            if (mo.get(i) >= 0 && mt.get(i) >= 0) stays.add(new int[] {i, mo.get(i), mt.get(i)});
        }
        stays.add(new int[] {base.size(), ours.size(), theirs.size()});
        List<Line> out = new ArrayList<>();
        int[] last = {-1, -1, -1};
        for (int[] stay : stays) {
            List<Line> b = new ArrayList<>(base.subList(last[0] + 1, stay[0]));
            List<Line> o = new ArrayList<>(ours.subList(last[1] + 1, stay[1]));
            List<Line> t = new ArrayList<>(theirs.subList(last[2] + 1, stay[2]));
            if (o.equals(t)) {
                out.addAll(o);
            } else if (o.equals(b)) {
                out.addAll(t);
            } else if (t.equals(b)) {
                out.addAll(o);
            } else {
                out.add(turned ? new Conflict(t, b, o) : new Conflict(o, b, t));
            }
            if (stay[0] < base.size()) out.add(base.get(stay[0]));
            last = stay;
        }
        return out;
    }

    int ancestors(int v) {
        return is(v) ? bits(ancestorSet(v)) : BAD;
    }

    int nearest(int a, int b) {
        return is(a, b) && a != b ? bits(nearestSet(a, b)) : BAD;
    }

    int common(int a, int b, int f, int r) {
        if (!is(a, b) || a == b || !in(f, 0, 2) || !in(r, 0, 5)) return BAD;
        try {
            return writeTo(commonContent(a, b).files().get(f), r);
        } catch (Spent s) {
            return SPENT;
        }
    }

    private int refused(int a, int b) {
        if (!is(a, b) || a == b) return BAD;
        return ancestorSet(a).contains(b) || ancestorSet(b).contains(a) ? STATE : 0;
    }

    private Content merged(int a, int b, boolean turned) {
        return mergeContents(book.get(a).content(), book.get(b).content(), commonContent(a, b), turned);
    }

    int would(int a, int b) {
        if (refused(a, b) != 0) return refused(a, b);
        try {
            Content c = merged(a, b, false);
            asked = bits(c.torn());
            return conflicts(c);
        } catch (Spent s) {
            return SPENT;
        }
    }

    int mirrored(int a, int b) {
        if (refused(a, b) != 0) return refused(a, b);
        try {
            return merged(a, b, false).equals(merged(b, a, true)) ? 1 : 0;
        } catch (Spent s) {
            return SPENT;
        }
    }

    // ---- 3

    private int child(int v, int f, List<Line> lines) {
        Content c = book.get(v).content();
        List<List<Line>> files = new ArrayList<>(c.files());
        files.set(f, lines);
        Set<Integer> torn = new TreeSet<>(c.torn());
        torn.remove(f);
        book.add(new Version(List.of(v), new Content(files, torn)));
        return book.size() - 1;
    }

    int change(int v, int f, int r) {
        if (!is(v) || !in(f, 0, 2) || !in(r, 0, 5)) return BAD;
        if (rows[r] == null) return find(1);
        if (rows[r].length > 8) return find(5);
        if (Arrays.stream(rows[r]).anyMatch(x -> !in(x, 0, 9))) return find(3);
        if (book.size() == 16) return FULL;
        List<Line> lines = new ArrayList<>();
        for (int x : rows[r]) lines.add(new Figure(x));
        return child(v, f, lines);
    }

    int drop(int v, int f) {
        if (!is(v) || !in(f, 0, 2)) return BAD;
        if (book.get(v).content().files().get(f) == null) return STATE;
        return book.size() == 16 ? FULL : child(v, f, null);
    }

    int settle(int v, int f, int side) {
        if (!is(v) || !in(f, 0, 2) || !in(side, 0, 2)) return BAD;
        List<Line> file = book.get(v).content().files().get(f);
        boolean torn = book.get(v).content().torn().contains(f);
        if (!torn && (file == null || file.stream().noneMatch(l -> l instanceof Conflict))) return STATE;
        if (book.size() == 16) return FULL;
        List<Line> out = new ArrayList<>();
        for (Line line : file) {
            if (line instanceof Conflict c) {
                out.addAll(List.of(c.ours(), c.base(), c.theirs()).get(side));
            } else {
                out.add(line);
            }
        }
        return child(v, f, out);
    }

    int merge(int a, int b) {
        if (refused(a, b) != 0) return refused(a, b);
        Content c;
        try {
            c = merged(a, b, false);
        } catch (Spent s) {
            return SPENT;
        }
        if (book.size() == 16) return FULL;
        book.add(new Version(List.of(a, b), c));
        return book.size() - 1;
    }

    int undo(int n) {
        if (!in(n, 1, book.size())) return BAD;
        int gone = book.size() - n;
        book = new ArrayList<>(book.subList(0, n));
        return gone;
    }

    int keep(int k) {
        if (!in(k, 0, 2)) return BAD;
        if (book.isEmpty()) return STATE;
        kept.set(k, new ArrayList<>(book));
        return book.size();
    }

    int on(int k) {
        if (!in(k, 0, 2)) return BAD;
        if (kept.get(k) == null) return find(1);
        book = new ArrayList<>(kept.get(k));
        return book.size();
    }

    int lots(int n, int seed) {
        if (!in(n, 1, 10) || !in(seed, 1, 2147483646)) return BAD;
        if (book.isEmpty()) return STATE;
        long it = seed;
        for (int i = 0; i < n; i++) {
            it = 48271 * it % 2147483647;
            int p = (int) (it / 64 % book.size());
            int f = (int) (it / 4 % 3);
            List<Line> file = book.get(p).content().files().get(f);
            List<Line> lines = file == null ? new ArrayList<>() : new ArrayList<>(file);
            if (it % 4 != 0 && lines.stream().allMatch(l -> l instanceof Figure) && lines.size() < 8) {
                if (book.size() < 16) {
                    lines.add((int) (it / 16384 % (lines.size() + 1)), new Figure((int) (it / 1024 % 10)));
                    child(p, f, lines);
                }
            } else {
                merge(p, (int) (it / 4096 % book.size()));
            }
        }
        return book.size();
    }

    // ---- 4

    private List<Line> allLines(int v) {
        List<Line> all = new ArrayList<>();
        for (List<Line> file : book.get(v).content().files()) if (file != null) all.addAll(file);
        return all;
    }

    int unlike(int v) {
        return is(v) ? new LinkedHashSet<>(allLines(v)).size() : BAD;
    }

    int shared(int a, int b) {
        if (!is(a, b)) return BAD;
        Set<Line> lines = new LinkedHashSet<>(allLines(a));
        lines.retainAll(new LinkedHashSet<>(allLines(b)));
        return lines.size();
    }

    int often(int v, int f, int line) {
        if (!is(v) || !in(f, 0, 2) || !in(line, 0, lines(v, f) - 1)) return BAD;
        Line wanted = book.get(v).content().files().get(f).get(line);
        return tell((int) allLines(v).stream().filter(wanted::equals).count());
    }

    int from(int v, int f, int line) {
        if (!is(v) || !in(f, 0, 2) || !in(line, 0, lines(v, f) - 1)) return BAD;
        Line wanted = book.get(v).content().files().get(f).get(line);
        for (int a : ancestorSet(v)) {
            List<Line> file = book.get(a).content().files().get(f);
            if (file != null && file.contains(wanted)) return a;
        }
        throw new IllegalStateException();
    }

    int apart(int a, int b) {
        if (!is(a, b)) return BAD;
        int apart = 0;
        for (int f = 0; f < 3; f++) {
            List<Line> x = book.get(a).content().files().get(f);
            List<Line> y = book.get(b).content().files().get(f);
            x = x == null ? List.of() : x;
            y = y == null ? List.of() : y;
            apart += x.size() + y.size() - 2 * matchable(x, y);
        }
        return apart;
    }

    int ways(int v) {
        if (!is(v)) return BAD;
        return v == 0 ? 1 : book.get(v).parents().stream().mapToInt(this::ways).sum();
    }

    private static long gcd(long a, long b) {
        return b == 0 ? a : gcd(b, a % b);
    }

    private Fraction chanceOf(int v, int by) {
        if (v == by) return new Fraction(1, 1);
        List<Integer> parents = book.get(v).parents();
        long upper = 0;
        long lower = 1;
        for (int p : parents) {
            Fraction part = chanceOf(p, by);
            upper = upper * part.lower() * parents.size() + part.upper() * lower;
            lower = lower * part.lower() * parents.size();
            long g = gcd(upper, lower);
            upper /= g;
            lower /= g;
        }
        return new Fraction(upper, lower);
    }

    int odds(int v, int by) {
        if (!is(v, by)) return BAD;
        chance = chanceOf(v, by);
        return 1;
    }

    // ---- 5

    int count(int what) {
        int n = 0;
        switch (what) {
            case 0: return book.size();
            case 1: for (int v = 0; v < book.size(); v++) n += kind(v) == 2 ? 1 : 0; return n;
            case 2: for (int v = 0; v < book.size(); v++) n += kind(v) >= 3 ? 1 : 0; return n;
            case 3: for (int v = 0; v < book.size(); v++) n += kind(v) == 4 ? 1 : 0; return n;
            case 4: {
                Set<Integer> free = new TreeSet<>();
                for (int v = 0; v < book.size(); v++) free.add(v);
                for (Version v : book) free.removeAll(v.parents());
                return bits(free);
            }
            case 5: for (Version v : book) n += conflicts(v.content()); return n;
            case 6: for (Version v : book) n += v.content().torn().size(); return n;
            case 7: for (int v = 0; v < book.size(); v++) n += allLines(v).size(); return n;
            case 8: for (int[] r : rows) n += r == null ? 0 : 1; return n;
            case 9: for (byte[] t : texts) n += t == null ? 0 : 1; return n;
            case 10: for (List<Version> k : kept) n += k == null ? 0 : 1; return n;
            default: return BAD;
        }
    }

    int findings(int f) {
        return in(f, 1, 5) ? findings[f] : BAD;
    }

    long digest() {
        List<Integer> all = new ArrayList<>();
        for (int what = 0; what <= 10; what++) all.add(count(what));
        for (int v = 0; v < book.size(); v++) {
            for (int what = 0; what <= 6; what++) all.add(trait(v, what));
            for (List<Line> file : book.get(v).content().files()) {
                all.add(file == null ? -1 : written(file).size());
                if (file != null) all.addAll(written(file));
            }
        }
        for (List<Version> k : kept) all.add(k == null ? -1 : k.size());
        for (int[] r : rows) {
            all.add(r == null ? -1 : r.length);
            if (r != null) for (int x : r) all.add(x);
        }
        for (byte[] t : texts) {
            all.add(t == null ? -1 : t.length);
            if (t != null) for (byte x : t) all.add((int) x);
        }
        long h = 17;
        for (int v : all) h = 31 * h + v;
        return h;
    }
}
