import java.util.Arrays;

/** A merger of histories: versions of three files, branches that criss and cross, conflicts never hidden. */
public final class CrissMerger {
    public static final int BAD = -1, FULL = -2, FINDING = -3, STATE = -4, SPENT = -6, NONE = -9;

    private static final int NOTHING = 1, BEYOND = 2, UNLIKE = 3, NOUGHT = 4, SIZE = 5;
    private static final int ROWS = 6, PLACES = 40, TEXTS = 4, SIGNS = 60, BLANK = 32;
    private static final int VERSIONS = 16, FILES = 3, NUMBERS = 40, FIGURES = 8, KEPT = 3;
    private static final int MISSING = -1;
    private static final int ROOT = 1, CHANGE = 2, MERGE = 3, KNOT = 4;
    /** What a CONFLICT is WRITTEN OUT with: ahead of OURS, of BASE, of THEIRS, and behind all. */
    private static final int OPEN = 10, MIDDLE = 11, OTHER = 12, CLOSE = 13;
    private static final int LINES = 0, CONFLICTS = 1, DEEPEST = 2;
    private static final int COUNTS = 11, TRAITS = 7;
    private static final int MOST_LOTS = 10;
    private static final long LOT_FACTOR = 48271L, LOT_MODULUS = 2147483647L;
    /** A WAY BACK halves a chance at most once a VERSION, so this many parts never leave a rest. */
    private static final long WHOLE = 1L << VERSIONS;

    private final Strip[] rows = new Strip[ROWS];
    private final Strip[] texts = new Strip[TEXTS];
    private final Book book = new Book();
    /** Made when first kept in, as most runs keep little; one of no VERSIONS is missing, too. */
    private final Book[] kept = new Book[KEPT];
    private final Merger merger = new Merger();
    private final Tree merged = new Tree();
    private final Tree mirror = new Tree();
    private final LineList some = new LineList();
    private final LineList others = new LineList();
    private int told = 0;
    private long upperTold = 0;
    private long lowerTold = 1;
    private int lastFinding = 0;
    private final int[] findingCounts = new int[SIZE + 1];

    public CrissMerger() {
        for (int r = 0; r < ROWS; r++) {
            rows[r] = new Strip(PLACES);
        }
        for (int t = 0; t < TEXTS; t++) {
            texts[t] = new Strip(SIGNS);
        }
    }

    // ---- 1 rows, texts, histories

    public int row(int r, int n) {
        return isRow(r) ? renewed(rows[r], n, 0) : BAD;
    }

    public int lay(int r, int i, int v) {
        if (!isRow(r)) {
            return BAD;
        }
        int finding = findingAt(rows[r], i);
        if (finding != 0) {
            return found(finding);
        }
        int was = rows[r].get(i);
        rows[r].set(i, v);
        return tell(was);
    }

    public int at(int r, int i) {
        if (!isRow(r)) {
            return BAD;
        }
        int finding = findingAt(rows[r], i);
        return finding != 0 ? found(finding) : tell(rows[r].get(i));
    }

    public int tear(int r) {
        if (!isRow(r)) {
            return BAD;
        }
        if (!rows[r].isThere()) {
            return found(NOTHING);
        }
        rows[r].size = MISSING;
        return 1;
    }

    public int copy(int r, int i, int to, int j, int n) {
        if (!isRow(r) || !isRow(to)) {
            return BAD;
        }
        if (n < 0) {
            return found(SIZE);
        }
        if (!rows[r].isThere() || !rows[to].isThere()) {
            return found(NOTHING);
        }
        if (!rows[r].hasRun(i, n) || !rows[to].hasRun(j, n)) {
            return found(BEYOND);
        }
        System.arraycopy(rows[r].places, i, rows[to].places, j, n);
        return 1;
    }

    public int mean(int r) {
        if (!isRow(r)) {
            return BAD;
        }
        Strip row = rows[r];
        if (!row.isThere()) {
            return found(NOTHING);
        }
        if (row.size == 0) {
            return found(NOUGHT);
        }
        long sum = 0;
        for (int i = 0; i < row.size; i++) {
            sum += row.get(i);
        }
        return tell((int) (sum / row.size));
    }

    public int text(int t, int n) {
        return isText(t) ? renewed(texts[t], n, BLANK) : BAD;
    }

    public int put(int t, int i, int v) {
        if (!isText(t)) {
            return BAD;
        }
        int finding = findingAt(texts[t], i);
        if (finding != 0) {
            return found(finding);
        }
        int was = texts[t].get(i);
        texts[t].set(i, (byte) v);
        return was + 1000;
    }

    public int fault(int t) {
        if (!isText(t)) {
            return BAD;
        }
        return texts[t].isThere() ? readTree(texts[t], merged) : found(NOTHING);
    }

    public int book(int t) {
        if (!isText(t)) {
            return BAD;
        }
        if (!texts[t].isThere()) {
            return found(NOTHING);
        }
        if (readTree(texts[t], merged) != NONE) {
            return STATE;
        }
        book.size = 0;
        book.add(merged, NONE, NONE);
        for (int k = 0; k < KEPT; k++) {
            if (kept[k] != null) {
                kept[k].size = 0;
            }
        }
        return Integer.bitCount(merged.present());
    }

    public int version(int v, int what) {
        if (!book.has(v) || what < 0 || what >= TRAITS) {
            return BAD;
        }
        return tell(traitOf(v, what));
    }

    public int mark(int v, int kind) {
        if (!book.has(v) || kind < ROOT || kind > KNOT) {
            return BAD;
        }
        int own = book.kindOf(v);
        if (own != kind && !(own == KNOT && kind == MERGE)) {
            return found(UNLIKE);
        }
        if (kind == ROOT) {
            return tell(Integer.bitCount(book.trees[v].present()));
        }
        if (kind == CHANGE) {
            return tell(howFarApart(v, book.firsts[v]));
        }
        int nearest = book.nearestOf(book.firsts[v], book.seconds[v]);
        return tell(kind == MERGE ? nearest : Integer.bitCount(nearest));
    }

    public int file(int v, int f, int r) {
        return hasFile(v, f) && isRow(r) ? writtenOut(book.trees[v].files[f], r) : BAD;
    }

    public int lines(int v, int f) {
        if (!hasFile(v, f)) {
            return BAD;
        }
        Strip file = book.trees[v].files[f];
        return file.isThere() ? Tree.measure(file, LINES) : NONE;
    }

    // ---- 2 ancestors, merges aside

    public int ancestors(int v) {
        return book.has(v) ? book.ancestry[v] : BAD;
    }

    public int nearest(int a, int b) {
        return isPair(a, b) ? book.nearestOf(a, b) : BAD;
    }

    public int common(int a, int b, int f, int r) {
        if (!isPair(a, b) || !hasFile(a, f) || !isRow(r)) {
            return BAD;
        }
        Tree common = commonOf(book, merger, a, b, 0);
        return common == null ? SPENT : writtenOut(common.files[f], r);
    }

    public int would(int a, int b) {
        int refusal = mergeAside(merged, a, b, false);
        if (refusal != 0) {
            return refusal;
        }
        told = merged.torn;
        return merged.total(CONFLICTS);
    }

    public int mirrored(int a, int b) {
        int refusal = mergeAside(merged, a, b, false);
        if (refusal == 0) {
            refusal = mergeAside(mirror, b, a, true);
        }
        if (refusal != 0) {
            return refusal;
        }
        return merged.isLike(mirror) ? 1 : 0;
    }

    // ---- 3 deeds

    public int change(int v, int f, int r) {
        if (!hasFile(v, f) || !isRow(r)) {
            return BAD;
        }
        Strip row = rows[r];
        if (!row.isThere()) {
            return found(NOTHING);
        }
        if (row.size > FIGURES) {
            return found(SIZE);
        }
        for (int i = 0; i < row.size; i++) {
            if (row.get(i) < 0 || row.get(i) > 9) {
                return found(UNLIKE);
            }
        }
        if (book.isFull()) {
            return FULL;
        }
        int child = book.addChild(v, f);
        book.trees[child].files[f].become(row);
        return child;
    }

    public int drop(int v, int f) {
        if (!hasFile(v, f)) {
            return BAD;
        }
        if (!book.trees[v].files[f].isThere()) {
            return STATE;
        }
        if (book.isFull()) {
            return FULL;
        }
        int child = book.addChild(v, f);
        book.trees[child].files[f].size = MISSING;
        return child;
    }

    public int settle(int v, int f, int side) {
        if (!hasFile(v, f) || side < 0 || side > 2) {
            return BAD;
        }
        Strip file = book.trees[v].files[f];
        if (Tree.measure(file, CONFLICTS) == 0 && !book.trees[v].isTorn(f)) {
            return STATE;
        }
        if (book.isFull()) {
            return FULL;
        }
        int child = book.addChild(v, f);
        Tree.settleFile(file, side, book.trees[child].files[f]);
        return child;
    }

    public int merge(int a, int b) {
        int refusal = mergeAside(merged, a, b, false);
        return refusal != 0 ? refusal : book.add(merged, a, b);
    }

    public int undo(int n) {
        if (n < 1 || n > book.size) {
            return BAD;
        }
        int gone = book.size - n;
        book.size = n;
        return gone;
    }

    public int keep(int k) {
        if (!isKept(k)) {
            return BAD;
        }
        if (book.size == 0) {
            return STATE;
        }
        if (kept[k] == null) {
            kept[k] = new Book();
        }
        kept[k].become(book);
        return book.size;
    }

    public int on(int k) {
        if (!isKept(k)) {
            return BAD;
        }
        Book from = kept[k];
        if (from == null || from.size == 0) {
            return found(NOTHING);
        }
        book.become(from);
        return book.size;
    }

    public int lots(int n, int seed) {
        if (n < 1 || n > MOST_LOTS || seed < 1 || seed >= LOT_MODULUS) {
            return BAD;
        }
        if (book.size == 0) {
            return STATE;
        }
        long lot = seed;
        for (int i = 0; i < n; i++) {
            lot = lot * LOT_FACTOR % LOT_MODULUS;
            doByLot((int) lot);
        }
        return book.size;
    }

    // ---- 4 lines, ways

    public int unlike(int v) {
        if (!book.has(v)) {
            return BAD;
        }
        some.takeTree(book.trees[v]);
        int unlike = 0;
        for (int i = 0; i < some.size; i++) {
            if (some.isFirst(i)) {
                unlike++;
            }
        }
        return unlike;
    }

    public int shared(int a, int b) {
        if (!book.has(a) || !book.has(b)) {
            return BAD;
        }
        some.takeTree(book.trees[a]);
        others.takeTree(book.trees[b]);
        int shared = 0;
        for (int i = 0; i < some.size; i++) {
            if (some.isFirst(i) && others.howOften(some, i) > 0) {
                shared++;
            }
        }
        return shared;
    }

    public int often(int v, int f, int line) {
        if (!takeLine(v, f, line)) {
            return BAD;
        }
        others.takeTree(book.trees[v]);
        return tell(others.howOften(some, line));
    }

    public int from(int v, int f, int line) {
        if (!takeLine(v, f, line)) {
            return BAD;
        }
        for (int a = 0; a < v; a++) {
            if (book.isAncestor(a, v)) {
                others.takeFile(book.trees[a].files[f]);
                if (others.howOften(some, line) > 0) {
                    return a;
                }
            }
        }
        return v;
    }

    public int apart(int a, int b) {
        return book.has(a) && book.has(b) ? howFarApart(a, b) : BAD;
    }

    public int ways(int v) {
        return book.has(v) ? book.waysBack(v) : BAD;
    }

    public int odds(int v, int by) {
        if (!book.has(v) || !book.has(by)) {
            return BAD;
        }
        upperTold = book.partsBy(v, by);
        lowerTold = WHOLE;
        for (int i = 0; i < VERSIONS && upperTold % 2 == 0 && lowerTold % 2 == 0; i++) {
            upperTold /= 2;
            lowerTold /= 2;
        }
        return 1;
    }

    // ---- 5 what is told

    public int asked() {
        return told;
    }

    public long upper() {
        return upperTold;
    }

    public long lower() {
        return lowerTold;
    }

    public int count(int what) {
        return what < 0 || what >= COUNTS ? BAD : counted(what);
    }

    public int finding() {
        return lastFinding;
    }

    public int findings(int f) {
        return f < NOTHING || f > SIZE ? BAD : findingCounts[f];
    }

    public long digest() {
        long h = 17;
        for (int what = 0; what < COUNTS; what++) {
            h = 31 * h + counted(what);
        }
        for (int v = 0; v < book.size; v++) {
            for (int what = 0; what < TRAITS; what++) {
                h = 31 * h + traitOf(v, what);
            }
            h = digestOf(h, book.trees[v].files);
        }
        for (int k = 0; k < KEPT; k++) {
            h = 31 * h + keptSize(k);
        }
        return digestOf(digestOf(h, rows), texts);
    }

    // ---- what the calls share

    private static boolean isRow(int r) {
        return r >= 0 && r < ROWS;
    }

    private static boolean isText(int t) {
        return t >= 0 && t < TEXTS;
    }

    private static boolean isKept(int k) {
        return k >= 0 && k < KEPT;
    }

    private boolean hasFile(int v, int f) {
        return book.has(v) && f >= 0 && f < FILES;
    }

    private boolean isPair(int a, int b) {
        return book.has(a) && book.has(b) && a != b;
    }

    private int tell(int what) {
        told = what;
        return 1;
    }

    private int found(int finding) {
        lastFinding = finding;
        if (finding >= NOTHING && finding <= SIZE) {
            findingCounts[finding]++;
        }
        return FINDING;
    }

    private static int findingAt(Strip strip, int i) {
        if (!strip.isThere()) {
            return NOTHING;
        }
        return strip.has(i) ? 0 : BEYOND;
    }

    private int renewed(Strip strip, int n, int filler) {
        if (n > strip.places.length) {
            return BAD;
        }
        if (n < 0) {
            return found(SIZE);
        }
        strip.renew(n, filler);
        return n;
    }

    private int writtenOut(Strip file, int r) {
        if (!file.isThere()) {
            return NONE;
        }
        rows[r].become(file);
        return file.size;
    }

    /** Reads a TEXT's FILES: where its FAULT is, or NONE; behind a FAULT the FILES mean nothing. */
    private static int readTree(Strip text, Tree to) {
        to.clear();
        Strip file = null;
        for (int i = 0; i < text.size; i++) {
            int sign = text.get(i);
            if (sign == BLANK) {
                file = null;
            } else if (sign >= 'a' && sign < 'a' + FILES) {
                file = to.files[sign - 'a'];
                if (file.isThere()) {
                    return i;
                }
                file.renew(0, 0);
            } else if (file != null && sign >= '0' && sign <= '9' && file.size < FIGURES) {
                file.append(sign - '0');
            } else {
                return i;
            }
        }
        return NONE;
    }

    private int traitOf(int v, int what) {
        Tree tree = book.trees[v];
        switch (what) {
            case 0: return book.kindOf(v);
            case 1: return book.firsts[v];
            case 2: return book.seconds[v];
            case 3: return tree.present();
            case 4: return tree.torn;
            case 5: return tree.total(CONFLICTS);
            default: return tree.deepest();
        }
    }

    private int counted(int what) {
        switch (what) {
            case 0: return book.size;
            case 1: return book.countKinds(CHANGE, CHANGE);
            case 2: return book.countKinds(MERGE, KNOT);
            case 3: return book.countKinds(KNOT, KNOT);
            case 4: return book.tips();
            case 5: return book.total(CONFLICTS);
            case 6: return book.countTorn();
            case 7: return book.total(LINES);
            case 8: return countThere(rows);
            case 9: return countThere(texts);
            default: return countKept();
        }
    }

    private static int countThere(Strip[] strips) {
        int there = 0;
        for (int i = 0; i < strips.length; i++) {
            if (strips[i].isThere()) {
                there++;
            }
        }
        return there;
    }

    private int countKept() {
        int there = 0;
        for (int k = 0; k < KEPT; k++) {
            if (keptSize(k) != MISSING) {
                there++;
            }
        }
        return there;
    }

    private int keptSize(int k) {
        return kept[k] == null || kept[k].size == 0 ? MISSING : kept[k].size;
    }

    private static long digestOf(long start, Strip[] strips) {
        long h = start;
        for (int s = 0; s < strips.length; s++) {
            Strip strip = strips[s];
            h = 31 * h + strip.size;
            for (int i = 0; i < strip.size; i++) {
                h = 31 * h + strip.get(i);
            }
        }
        return h;
    }

    /**
     * Two VERSIONS MERGED to a Tree alone: 0, or why not. Turned is only what comes by this MERGE, not what comes in
     * the COMMON: that is the same one either way round.
     */
    private int mergeAside(Tree to, int ours, int theirs, boolean turned) {
        if (!isPair(ours, theirs)) {
            return BAD;
        }
        if (book.isAncestor(ours, theirs) || book.isAncestor(theirs, ours)) {
            return STATE;
        }
        Tree base = commonOf(book, merger, ours, theirs, 0);
        merger.turned = turned;
        boolean fits = base != null && merger.mergeTrees(book.trees[ours], book.trees[theirs], base, to);
        merger.turned = false;
        return fits ? 0 : SPENT;
    }

    /**
     * The COMMON of two VERSIONS; null: a FILE would be too long. Several NEAREST are lower than both VERSIONS, so it
     * never goes as deep as there are VERSIONS.
     */
    private static Tree commonOf(Book book, Merger merger, int a, int b, int depth) {
        if (depth < 0 || depth >= VERSIONS) {
            return null;
        }
        int nearest = book.nearestOf(a, b);
        Tree common = null;
        int last = NONE;
        for (int v = 0; v < VERSIONS; v++) {
            if ((nearest >> v & 1) == 0) {
                continue;
            }
            if (common == null) {
                common = book.trees[v];
            } else {
                Tree base = commonOf(book, merger, last, v, depth + 1);
                if (base == null || !merger.mergeTrees(common, book.trees[v], base, merger.levels[depth])) {
                    return null;
                }
                common = merger.levels[depth];
            }
            last = v;
        }
        return common;
    }

    private void doByLot(int lot) {
        if (book.size == 0 || book.isFull()) {
            return;
        }
        int p = lot / 64 % book.size;
        int f = lot / 4 % FILES;
        Strip file = book.trees[p].files[f];
        int size = Math.max(file.size, 0);
        if (lot % 4 != 0 && Tree.measure(file, CONFLICTS) == 0 && size < FIGURES) {
            int child = book.addChild(p, f);
            book.trees[child].files[f].becomeWith(file, lot / 16384 % (size + 1), lot / 1024 % 10);
            return;
        }
        int other = lot / 4096 % book.size;
        if (mergeAside(merged, p, other, false) == 0) {
            book.add(merged, p, other);
        }
    }

    private boolean takeLine(int v, int f, int line) {
        if (!hasFile(v, f)) {
            return false;
        }
        some.takeFile(book.trees[v].files[f]);
        return line >= 0 && line < some.size;
    }

    private int howFarApart(int a, int b) {
        int apart = 0;
        for (int f = 0; f < FILES; f++) {
            some.takeFile(book.trees[a].files[f]);
            others.takeFile(book.trees[b].files[f]);
            apart += some.size + others.size - 2 * merger.matcher.mostMatched(some, others);
        }
        return apart;
    }

    /** A row of numbers, or a missing one: a ROW, a TEXT, or a FILE WRITTEN OUT. */
    static final class Strip {
        final int[] places;
        int size = MISSING;

        Strip(int most) {
            places = new int[Math.max(most, 0)];
        }

        boolean isThere() {
            return size >= 0;
        }

        boolean has(int i) {
            return i >= 0 && i < size;
        }

        /** Whether n places from i on are there; taken from the size, as i and n together may wrap around. */
        boolean hasRun(int i, int n) {
            return i >= 0 && n >= 0 && i <= size - n;
        }

        int get(int i) {
            return has(i) ? places[i] : 0;
        }

        void set(int i, int v) {
            if (has(i)) {
                places[i] = v;
            }
        }

        void renew(int n, int filler) {
            size = Math.min(Math.max(n, 0), places.length);
            for (int i = 0; i < size; i++) {
                places[i] = filler;
            }
        }

        void append(int v) {
            if (size >= 0 && size < places.length) {
                places[size] = v;
                size++;
            }
        }

        void become(Strip other) {
            size = Math.min(other.size, places.length);
            if (size > 0) {
                System.arraycopy(other.places, 0, places, 0, size);
            }
        }

        /** Becomes another one (of none, if that is missing) with a number more at a place of it. */
        void becomeWith(Strip other, int place, int v) {
            int rest = Math.max(other.size, 0);
            renew(0, 0);
            for (int i = 0; i <= rest; i++) {
                if (i == place) {
                    append(v);
                }
                if (i < rest) {
                    append(other.get(i));
                }
            }
        }

        boolean isLike(Strip other) {
            if (size != other.size) {
                return false;
            }
            for (int i = 0; i < size; i++) {
                if (places[i] != other.places[i]) {
                    return false;
                }
            }
            return true;
        }
    }

    /** What a VERSION holds, or a COMMON that never was one: the FILES, and which of them are TORN (bits). */
    static final class Tree {
        final Strip[] files = new Strip[FILES];
        int torn = 0;

        Tree() {
            for (int f = 0; f < FILES; f++) {
                files[f] = new Strip(NUMBERS);
            }
        }

        void clear() {
            torn = 0;
            for (int f = 0; f < FILES; f++) {
                files[f].size = MISSING;
            }
        }

        void become(Tree other) {
            torn = other.torn;
            for (int f = 0; f < FILES; f++) {
                files[f].become(other.files[f]);
            }
        }

        boolean isLike(Tree other) {
            for (int f = 0; f < FILES; f++) {
                if (!files[f].isLike(other.files[f])) {
                    return false;
                }
            }
            return torn == other.torn;
        }

        boolean isTorn(int f) {
            return (torn >> f & 1) != 0;
        }

        int present() {
            int bits = 0;
            for (int f = 0; f < FILES; f++) {
                if (files[f].isThere()) {
                    bits |= 1 << f;
                }
            }
            return bits;
        }

        int total(int what) {
            int total = 0;
            for (int f = 0; f < FILES; f++) {
                total += measure(files[f], what);
            }
            return total;
        }

        int deepest() {
            int deepest = 0;
            for (int f = 0; f < FILES; f++) {
                deepest = Math.max(deepest, measure(files[f], DEEPEST));
            }
            return deepest;
        }

        /** Of a FILE: its LINES, the CONFLICTS among them, or how deep these lie in one another. */
        static int measure(Strip file, int what) {
            int lines = 0;
            int conflicts = 0;
            int deepest = 0;
            int depth = 0;
            for (int i = 0; i < file.size; i++) {
                int number = file.get(i);
                if (number == OPEN) {
                    depth++;
                    deepest = Math.max(deepest, depth);
                } else if (number == CLOSE) {
                    depth--;
                    conflicts += depth == 0 ? 1 : 0;
                }
                lines += depth == 0 ? 1 : 0;
            }
            if (what == LINES) {
                return lines;
            }
            return what == CONFLICTS ? conflicts : deepest;
        }

        /** Writes a FILE to another one with each outermost CONFLICT as its LINES of one side alone. */
        static void settleFile(Strip file, int side, Strip to) {
            to.renew(0, 0);
            int depth = 0;
            int part = side;
            for (int i = 0; i < file.size; i++) {
                int number = file.get(i);
                if (number == OPEN) {
                    depth++;
                }
                if (number >= OPEN && depth == 1) {
                    part = number == CLOSE ? side : number - OPEN;
                } else if (part == side) {
                    to.append(number);
                }
                if (number == CLOSE) {
                    depth--;
                }
            }
        }
    }

    /** All VERSIONS: what they hold, their PARENTS, and their ANCESTORS (bits). */
    static final class Book {
        int size = 0;
        final Tree[] trees = new Tree[VERSIONS];
        final int[] firsts = new int[VERSIONS];
        final int[] seconds = new int[VERSIONS];
        final int[] ancestry = new int[VERSIONS];
        private final long[] tallies = new long[VERSIONS];

        Book() {
            for (int v = 0; v < VERSIONS; v++) {
                trees[v] = new Tree();
            }
        }

        boolean has(int v) {
            return v >= 0 && v < size;
        }

        boolean isFull() {
            return size >= VERSIONS;
        }

        int add(Tree tree, int first, int second) {
            if (isFull()) {
                return FULL;
            }
            int v = size;
            trees[v].become(tree);
            firsts[v] = first;
            seconds[v] = second;
            ancestry[v] = 1 << v | ancestorsOf(first) | ancestorsOf(second);
            size = v + 1;
            return v;
        }

        private int ancestorsOf(int v) {
            return has(v) ? ancestry[v] : 0;
        }

        /** A CHANGE of a VERSION that is like it, but that a FILE, about to be another one, is not TORN. */
        int addChild(int parent, int f) {
            if (!has(parent) || isFull()) {
                return FULL;
            }
            int child = add(trees[parent], parent, NONE);
            trees[child].torn &= ~(1 << f);
            return child;
        }

        void become(Book other) {
            size = other.size;
            for (int v = 0; v < size; v++) {
                trees[v].become(other.trees[v]);
                firsts[v] = other.firsts[v];
                seconds[v] = other.seconds[v];
                ancestry[v] = other.ancestry[v];
            }
        }

        boolean isAncestor(int a, int v) {
            return has(a) && has(v) && (ancestry[v] >> a & 1) != 0;
        }

        int nearestOf(int a, int b) {
            if (!has(a) || !has(b)) {
                return 0;
            }
            int both = ancestry[a] & ancestry[b];
            int behind = 0;
            for (int v = 0; v < size; v++) {
                if ((both >> v & 1) != 0) {
                    behind |= ancestry[v] & ~(1 << v);
                }
            }
            return both & ~behind;
        }

        int kindOf(int v) {
            if (!has(firsts[v])) {
                return ROOT;
            }
            if (!has(seconds[v])) {
                return CHANGE;
            }
            return Integer.bitCount(nearestOf(firsts[v], seconds[v])) > 1 ? KNOT : MERGE;
        }

        int countKinds(int lowest, int highest) {
            int kinds = 0;
            for (int v = 0; v < size; v++) {
                int kind = kindOf(v);
                if (kind >= lowest && kind <= highest) {
                    kinds++;
                }
            }
            return kinds;
        }

        /** VERSIONS that are no PARENT (bits). */
        int tips() {
            int parents = 0;
            for (int v = 0; v < size; v++) {
                parents |= ancestry[v] & ~(1 << v);
            }
            return (1 << size) - 1 & ~parents;
        }

        int total(int what) {
            int total = 0;
            for (int v = 0; v < size; v++) {
                total += trees[v].total(what);
            }
            return total;
        }

        int countTorn() {
            int files = 0;
            for (int v = 0; v < size; v++) {
                files += Integer.bitCount(trees[v].torn);
            }
            return files;
        }

        int waysBack(int v) {
            tallies[0] = 1;
            for (int x = 1; x <= v; x++) {
                tallies[x] = tallyOf(firsts[x]) + tallyOf(seconds[x]);
            }
            return (int) tallies[v];
        }

        private long tallyOf(int v) {
            return has(v) ? tallies[v] : 0;
        }

        /** Of as many parts as WHOLE tells: those of all WAYS BACK from a VERSION that come by another one. */
        long partsBy(int v, int by) {
            Arrays.fill(tallies, 0);
            tallies[v] = WHOLE;
            for (int x = v; x > by; x--) {
                long parts = has(seconds[x]) ? tallies[x] / 2 : tallies[x];
                addParts(firsts[x], parts);
                addParts(seconds[x], parts);
            }
            return tallies[by];
        }

        private void addParts(int v, long parts) {
            if (has(v)) {
                tallies[v] += parts;
            }
        }
    }

    /** The LINES of a FILE, or of all FILES of a VERSION, one behind the other. */
    static final class LineList {
        final int[] numbers = new int[FILES * NUMBERS];
        /** Where each LINE begins; one more place tells where the last one ends. */
        final int[] starts = new int[FILES * NUMBERS + 1];
        int size = 0;

        void takeFile(Strip file) {
            size = 0;
            add(file);
        }

        void takeTree(Tree tree) {
            size = 0;
            for (int f = 0; f < FILES; f++) {
                add(tree.files[f]);
            }
        }

        private void add(Strip file) {
            int end = starts[size];
            int depth = 0;
            for (int i = 0; i < file.size && end < numbers.length; i++) {
                int number = file.places[i];
                numbers[end] = number;
                end++;
                if (number == OPEN) {
                    depth++;
                } else if (number == CLOSE) {
                    depth--;
                }
                if (depth == 0) {
                    size++;
                    starts[size] = end;
                }
            }
        }

        /** Whether LINES from i up to m (not with it) are ALIKE those of another list from j up to n. */
        boolean isRunLike(int i, int m, LineList other, int j, int n) {
            if (i < 0 || i > m || m > size || j < 0 || j > n || n > other.size) {
                return false;
            }
            int here = starts[i];
            int there = other.starts[j];
            int length = starts[m] - here;
            if (length != other.starts[n] - there) {
                return false;
            }
            for (int k = 0; k < length; k++) {
                if (numbers[here + k] != other.numbers[there + k]) {
                    return false;
                }
            }
            return true;
        }

        boolean isFirst(int line) {
            for (int i = 0; i < line; i++) {
                if (isRunLike(i, i + 1, this, line, line + 1)) {
                    return false;
                }
            }
            return true;
        }

        int howOften(LineList other, int line) {
            int often = 0;
            for (int i = 0; i < size; i++) {
                if (isRunLike(i, i + 1, other, line, line + 1)) {
                    often++;
                }
            }
            return often;
        }
    }

    /** Matches the LINES of two FILES. */
    static final class Matcher {
        private static final int WIDTH = NUMBERS + 1;
        /** How many can be matched from a LINE of the first and one of the second on. */
        private final int[] most = new int[WIDTH * WIDTH];

        int mostMatched(LineList base, LineList side) {
            int m = Math.min(base.size, NUMBERS);
            int n = Math.min(side.size, NUMBERS);
            for (int i = m; i >= 0; i--) {
                for (int j = n; j >= 0; j--) {
                    int place = i * WIDTH + j;
                    if (i == m || j == n) {
                        most[place] = 0;
                    } else if (base.isRunLike(i, i + 1, side, j, j + 1)) {
                        most[place] = most[place + WIDTH + 1] + 1;
                    } else {
                        most[place] = Math.max(most[place + WIDTH], most[place + 1]);
                    }
                }
            }
            return most[0];
        }

        /** Tells for each LINE of BASE which one of the side it is matched with, or NONE; behind mostMatched() of both. */
        void pair(LineList base, LineList side, int[] partners) {
            Arrays.fill(partners, NONE);
            int m = Math.min(base.size, NUMBERS);
            int n = Math.min(side.size, NUMBERS);
            int i = 0;
            int j = 0;
            while (i < m && j < n) {
                int place = i * WIDTH + j;
                if (base.isRunLike(i, i + 1, side, j, j + 1)) {
                    partners[i] = j;
                    i++;
                    j++;
                } else if (most[place + WIDTH] == most[place]) {
                    i++;
                } else {
                    j++;
                }
            }
        }
    }

    /** Merges two Trees over a third one. */
    static final class Merger {
        final Matcher matcher = new Matcher();
        /** What COMMONS come to that are no VERSION: one for each level that these need others for. */
        final Tree[] levels = new Tree[VERSIONS];
        /** Whether OURS and THEIRS of CONFLICTS that come are put the other way round. */
        boolean turned = false;
        private final LineList base = new LineList();
        private final LineList ours = new LineList();
        private final LineList theirs = new LineList();
        private final int[] ourPartners = new int[NUMBERS];
        private final int[] theirPartners = new int[NUMBERS];
        private final Strip out = new Strip(NUMBERS);
        private boolean spent = false;

        Merger() {
            for (int i = 0; i < VERSIONS; i++) {
                levels[i] = new Tree();
            }
        }

        /** Writes what comes to a Tree (which may be OURS); false: a FILE would be too long. */
        boolean mergeTrees(Tree our, Tree their, Tree over, Tree to) {
            int torn = 0;
            for (int f = 0; f < FILES; f++) {
                Strip from = undisputed(our.files[f], their.files[f], over.files[f]);
                if (from == null && our.files[f].isThere() && their.files[f].isThere()) {
                    from = out;
                    if (!mergeLines(our.files[f], their.files[f], over.files[f])) {
                        return false;
                    }
                } else if (from == null) {
                    from = our.files[f].isThere() ? our.files[f] : their.files[f];
                    torn |= 1 << f;
                }
                if (from.isThere()) {
                    torn |= (our.torn | their.torn) & 1 << f;
                }
                to.files[f].become(from);
            }
            to.torn = torn;
            return true;
        }

        /** The FILE that is taken whole; null: both sides made it another one, unlike ones. */
        private static Strip undisputed(Strip our, Strip their, Strip over) {
            if (our.isLike(their)) {
                return our;
            }
            if (our.isLike(over)) {
                return their;
            }
            return their.isLike(over) ? our : null;
        }

        private boolean mergeLines(Strip our, Strip their, Strip over) {
            base.takeFile(over);
            ours.takeFile(our);
            theirs.takeFile(their);
            matcher.mostMatched(base, ours);
            matcher.pair(base, ours, ourPartners);
            matcher.mostMatched(base, theirs);
            matcher.pair(base, theirs, theirPartners);
            out.renew(0, 0);
            spent = false;
            int b = 0;
            int o = 0;
            int t = 0;
            for (int line = 0; line < base.size && line < NUMBERS; line++) {
                if (ourPartners[line] >= 0 && theirPartners[line] >= 0) {
                    addGap(b, line, o, ourPartners[line], t, theirPartners[line]);
                    addRun(base, line, line + 1);
                    b = line + 1;
                    o = ourPartners[line] + 1;
                    t = theirPartners[line] + 1;
                }
            }
            addGap(b, base.size, o, ours.size, t, theirs.size);
            return !spent;
        }

        /** Adds what comes between LINES that STAY: of each row the LINES from its first number up to its second one. */
        private void addGap(int b, int bEnd, int o, int oEnd, int t, int tEnd) {
            if (ours.isRunLike(o, oEnd, theirs, t, tEnd)) {
                addRun(ours, o, oEnd);
            } else if (ours.isRunLike(o, oEnd, base, b, bEnd)) {
                addRun(theirs, t, tEnd);
            } else if (theirs.isRunLike(t, tEnd, base, b, bEnd)) {
                addRun(ours, o, oEnd);
            } else {
                addNumber(OPEN);
                addRun(turned ? theirs : ours, turned ? t : o, turned ? tEnd : oEnd);
                addNumber(MIDDLE);
                addRun(base, b, bEnd);
                addNumber(OTHER);
                addRun(turned ? ours : theirs, turned ? o : t, turned ? oEnd : tEnd);
                addNumber(CLOSE);
            }
        }

        private void addRun(LineList list, int from, int end) {
            if (from < 0 || from > end || end > list.size) {
                return;
            }
            int start = list.starts[from];
            int length = list.starts[end] - start;
            if (spent || length > NUMBERS - out.size) {
                spent = true;
                return;
            }
            for (int i = 0; i < length; i++) {
                out.places[out.size + i] = list.numbers[start + i];
            }
            out.size += length;
        }

        private void addNumber(int number) {
            spent = spent || out.size >= NUMBERS;
            if (!spent) {
                out.places[out.size] = number;
                out.size++;
            }
        }
    }
}
