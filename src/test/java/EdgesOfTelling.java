import java.util.List;

/** Promises 36 to 42, and the terms by which calls are refused. */
final class EdgesOfTelling extends Edges {
    static void all() {
        constants();
        order();
        none();
        refusedChangesNothing();
        findingsByName();
        sets();
        asked();
        askedByEach();
        chances();
        count();
        countEdges();
        finding();
        findings();
        digest();
        digestEdges();
    }

    private static void constants() {
        sentence(36, "FINDING -3 (finding() tells which)", () -> {
            same("BAD", CrissMerger.BAD, -1);
            same("FULL", CrissMerger.FULL, -2);
            same("FINDING", CrissMerger.FINDING, -3);
            same("STATE", CrissMerger.STATE, -4);
            same("SPENT", CrissMerger.SPENT, -6);
            same("NONE", CrissMerger.NONE, -9);
            due("at(0, 0)", -3);
            due("finding()", 1);
        });
    }

    private static void order() {
        sentence(40, "Refused is, the first of these that fits, in this order: BAD -1 (a number that is none, or not as told), "
                + "FULL -2, STATE -4 (not now), SPENT -6 (more than told)", () -> {
            // BAD ahead of STATE: no VERSIONS
            refused("keep(3)", BAD);
            refused("lots(0, 1)", BAD);
            refused("lots(1, 0)", BAD);
            // BAD ahead of a FINDING
            for (String call : List.of("row(6, -1)", "text(4, -1)", "lay(6, 0, 0)", "at(-1, 0)", "tear(6)", "mean(6)",
                    "copy(0, 0, 6, 0, 0)", "put(4, 0, 0)", "fault(4)", "book(4)", "on(3)")) {
                refused(call, BAD);
            }
            start("a1");
            refused("mark(1, 4)", BAD);
            refused("mark(0, 0)", BAD);
            refused("change(0, 3, 4)", BAD);
            refused("settle(0, 0, 3)", BAD);
            refused("drop(0, 3)", BAD);
            change(0, 0, "2");
            refused("would(0, 2)", BAD);
            refused("mirrored(2, 0)", BAD);
            refused("merge(0, 0)", BAD);
            // STATE ahead of FULL only where the call says so
            fillUp();
            refused("merge(0, 1)", STATE);
            refused("drop(0, 1)", STATE);
            refused("settle(0, 0, 0)", STATE);
            longCommon("3333");
            refused("common(9, 12, 0, 6)", BAD);
            refused("common(9, 9, 0, 0)", BAD);
            refused("would(9, 9)", BAD);
            refused("would(9, 3)", STATE);
        });
        sentence(40, "unless a call says so otherwise.", () -> {
            start("a1");
            write(1, "x");
            // STATE behind NOTHING
            refused("book(1)", STATE);
            found("book(2)", NOTHING);
            // FULL behind FINDINGS
            fillUp();
            due("row(5, 9)", 9);
            found("change(0, 0, 5)", SIZE);
            found("change(0, 0, 4)", NOTHING);
        });
    }

    private static void none() {
        sentence(36, "NONE -9 (as an answer: a ROW that would come anew stays).", () -> {
            start("a1");
            change(0, 0, "2");
            fill(0, 7, 8);
            told("at(0, 1)", 8);
            quiet("file(0, 1, 0)", NONE);
            quiet("file(0, 1, 1)", NONE);
            quiet("common(0, 1, 2, 0)", NONE);
            quiet("common(0, 1, 2, 1)", NONE);
            quiet("lines(0, 1)", NONE);
            quiet("fault(0)", NONE);
            rowIs(0, "7 8");
            rowIs(1, MISSING);
            quiet("asked()", 8);
            quiet("finding()", 0);
            told("version(0, 1)", NONE);
            told("version(1, 2)", NONE);
        });
    }

    private static void refusedChangesNothing() {
        sentence(40, "What is refused changes nothing but finding(), findings().", () -> {
            crissCross();
            due("keep(0)", 5);
            due("undo(4)", 1);
            due("keep(2)", 4);
            change(3, 1, "7");
            due("odds(3, 1)", 1);
            fill(1, 3, 4);
            told("mean(1)", 3);
            for (String call : List.of("row(1, 41)", "text(0, 61)", "put(9, 0, 0)", "book(-1)", "version(5, 0)",
                    "mark(0, 0)", "file(0, 0, 6)", "lines(5, 0)", "ancestors(5)", "nearest(4, 4)", "common(0, 0, 0, 1)",
                    "would(4, 4)", "mirrored(4, 4)", "change(0, 0, 9)", "drop(0, 3)", "settle(3, 0, 3)", "merge(3, 3)",
                    "undo(0)", "undo(6)", "keep(3)", "on(3)", "lots(11, 1)", "unlike(5)", "shared(0, 5)",
                    "often(3, 0, 3)", "from(3, 0, 3)", "apart(0, 5)", "ways(5)", "odds(0, 5)", "count(11)",
                    "findings(0)")) {
                refused(call, BAD);
            }
            for (String call : List.of("would(0, 4)", "mirrored(4, 0)", "drop(0, 1)", "settle(0, 0, 0)", "merge(4, 3)")) {
                refused(call, STATE);
            }
            write(1, "a1a");
            refused("book(1)", STATE);
            found("row(1, -1)", SIZE);
            found("lay(1, 2, 9)", BEYOND);
            found("copy(1, 0, 1, 1, 2)", BEYOND);
            found("text(0, -1)", SIZE);
            found("put(0, 60, 9)", BEYOND);
            found("mark(0, 4)", UNLIKE);
            found("change(0, 0, 0)", NOTHING);
            found("on(1)", NOTHING);
            found("book(2)", NOTHING);
        });
    }

    private static void findingsByName() {
        sentence(40, "FINDINGS: 1 NOTHING (a ROW, a TEXT, a kept BOOK that is missing)", () -> {
            for (String call : List.of("lay(0, 0, 0)", "at(5, 0)", "tear(0)", "copy(0, 0, 1, 0, 0)", "mean(0)",
                    "put(0, 0, 0)", "fault(3)", "book(0)", "on(0)", "on(2)")) {
                found(call, 1);
            }
            start("a1");
            found("change(0, 0, 0)", 1);
        });
        sentence(40, "2 BEYOND (a place of a ROW, a TEXT that there is not)", () -> {
            due("row(0, 1)", 1);
            due("text(0, 1)", 1);
            for (String call : List.of("lay(0, 1, 0)", "lay(0, -1, 0)", "at(0, 1)", "at(0, -1)", "copy(0, 0, 0, 0, 2)",
                    "copy(0, 2, 0, 0, 0)", "put(0, 1, 0)", "put(0, -1, 0)")) {
                found(call, 2);
            }
        });
        sentence(40, "3 UNLIKE (a VERSION of another KIND; a number that is none), 4 NOUGHT (shared among none), 5 SIZE (fewer "
                + "than none; too many).", () -> {
            start("a1");
            found("mark(0, 2)", 3);
            fill(0, 10);
            found("change(0, 0, 0)", 3);
            due("row(1, 0)", 0);
            found("mean(1)", 4);
            found("row(0, -1)", 5);
            found("text(0, -1)", 5);
            found("copy(0, 0, 0, 0, -1)", 5);
            due("row(2, 9)", 9);
            found("change(0, 0, 2)", 5);
        });
    }

    private static void sets() {
        sentence(39, "Sets (of VERSIONS, of FILES) are told by bits.", () -> {
            start("c1");
            told("version(0, 3)", 0b100);
            quiet("ancestors(0)", 1);
            quiet("count(4)", 1);
            fillUp();
            quiet("count(4)", 0xfffe);
            quiet("ancestors(15)", 0x8001);
            due("undo(15)", 1);
            due("change(14, 0, 5)", 15);
            quiet("nearest(15, 14)", 1 << 14);
            quiet("count(4)", 0xbffe);
        });
    }

    private static void asked() {
        sentence(36, "What the latest lay(), at(), mean(), version(), mark(), would(), often() that was not refused (nor NONE) "
                + "told; 0 before.", () -> {
            quiet("asked()", 0);
            due("at(0, 0)", FINDING);
            quiet("asked()", 0);
            fill(0, 5, 9);
            due("lay(0, 0, 6)", 1);
            quiet("asked()", 5);
            due("at(0, 1)", 1);
            quiet("asked()", 9);
            due("mean(0)", 1);
            quiet("asked()", 7);
            write(0, "a11");
            due("book(0)", 1);
            due("version(0, 2)", 1);
            quiet("asked()", NONE);
            due("mark(0, 1)", 1);
            quiet("asked()", 1);
            due("often(0, 0, 1)", 1);
            quiet("asked()", 2);
            due("drop(0, 0)", 1);
            fill(1, 3);
            due("change(0, 0, 1)", 2);
            due("would(1, 2)", 0);
            quiet("asked()", 1);
            due("at(0, 0)", 1);
            for (String refusal : List.of("lay(0, 2, 1)", "at(6, 0)", "mean(3)", "version(3, 0)", "mark(0, 0)", "mark(0, 3)",
                    "would(0, 1)", "would(1, 1)", "often(1, 0, 0)")) {
                ask(refusal);
                quiet("asked()", 6);
            }
        });
    }

    private static void askedByEach() {
        sentence(36, "told; 0 before.", () -> {
            // calls that tell nothing by it
            start("a12");
            fill(0, 7);
            due("at(0, 0)", 1);
            write(1, "b");
            for (String call : List.of("row(1, 2)", "copy(0, 0, 1, 0, 1)", "tear(1)", "text(2, 3)", "put(2, 0, 1)",
                    "fault(1)", "file(0, 0, 2)", "lines(0, 0)", "ancestors(0)", "change(0, 1, 0)", "drop(0, 0)",
                    "nearest(1, 2)", "common(1, 2, 0, 3)", "mirrored(1, 2)", "merge(1, 2)", "keep(0)", "undo(2)", "on(0)",
                    "lots(1, 1)", "unlike(0)", "shared(0, 1)", "from(0, 0, 0)", "apart(0, 1)", "ways(1)", "odds(1, 0)",
                    "upper()", "lower()", "count(0)", "finding()", "findings(1)", "digest()", "book(1)")) {
                ask(call);
                due("asked()", 7);
            }
        });
    }

    private static void chances() {
        sentence(37, "The upper number that was told last; 0 before.", () -> {
            quiet("upper()", 0);
            due("odds(0, 0)", BAD);
            quiet("upper()", 0);
            crissCross();
            due("odds(3, 1)", 1);
            quiet("upper()", 1);
            due("odds(1, 2)", 1);
            quiet("upper()", 0);
            due("odds(3, 3)", 1);
            refused("odds(9, 0)", BAD);
            quiet("upper()", 1);
            due("undo(1)", 4);
            quiet("upper()", 1);
        });
        sentence(38, "Its lower number; 1 before.", () -> {
            quiet("lower()", 1);
            due("odds(0, 0)", BAD);
            quiet("lower()", 1);
            crissCross();
            due("odds(3, 1)", 1);
            quiet("lower()", 2);
            refused("odds(9, 0)", BAD);
            quiet("lower()", 2);
            due("odds(1, 2)", 1);
            quiet("lower()", 1);
            due("odds(4, 2)", 1);
            due("undo(1)", 4);
            quiet("lower()", 2);
        });
        sentence(38, "Chances are told by upper(), lower(), in lowest terms, the lower number above 0 (0 by 1).", () -> {
            crissCross();
            due("merge(3, 4)", 5);
            // a quarter by each of two ways
            due("odds(5, 1)", 1);
            quiet("upper()", 1);
            quiet("lower()", 2);
            due("odds(5, 0)", 1);
            quiet("upper()", 1);
            quiet("lower()", 1);
            due("odds(0, 5)", 1);
            quiet("upper()", 0);
            quiet("lower()", 1);
        });
    }

    private static void counts(int... due) {
        for (int what = 0; what <= 10; what++) {
            quiet("count(" + what + ")", due[what]);
        }
    }

    private static void count() {
        sentence(39, "0 VERSIONS, 1 CHANGES, 2 MERGES (KNOTS, too), 3 KNOTS, 4 VERSIONS that are no PARENT (bits), 5 CONFLICTS "
                + "of all VERSIONS, 6 TORN FILES of all, 7 LINES of all, 8 ROWS, 9 TEXTS that are there, 10 kept BOOKS.",
                () -> {
            counts(0, 0, 0, 0, 0, 0, 0, 0, 0, 0, 0);
            start("a12b");
            counts(1, 0, 0, 0, 1, 0, 0, 2, 0, 1, 0);
            crissCross();
            due("merge(3, 4)", 5);
            due("drop(5, 0)", 6);
            due("keep(2)", 7);
            due("tear(5)", 1);
            counts(7, 3, 3, 1, 1 << 6, 3, 0, 18, 0, 1, 1);
            due("keep(1)", 7);
            due("keep(2)", 7);
            due("row(0, 0)", 0);
            due("text(1, 0)", 0);
            due("text(3, 0)", 0);
            counts(7, 3, 3, 1, 1 << 6, 3, 0, 18, 1, 3, 2);
            due("undo(3)", 4);
            counts(3, 2, 0, 0, 0b110, 0, 0, 9, 1, 3, 2);
            change(2, 0, "");
            change(0, 0, "");
            counts(5, 4, 0, 0, 0b11010, 0, 0, 9, 2, 3, 2);
        });
        sentence(39, "BAD.", () -> {
            for (int bad : new int[] {-1, 11, LOWEST, HIGHEST}) {
                refused("count(" + bad + ")", BAD);
            }
            start("a1");
            for (int bad : new int[] {-1, 11, LOWEST, HIGHEST}) {
                refused("count(" + bad + ")", BAD);
            }
        });
    }

    private static void countEdges() {
        sentence(39, "6 TORN FILES of all, 7 LINES of all, 8 ROWS, 9 TEXTS that are there, 10 kept BOOKS.", () -> {
            tornAll();
            quiet("count(6)", 3);
            change(7, 0, "6");
            quiet("count(6)", 5);
            start("a11111111b11111111c11111111");
            fill(0, 1, 1, 1, 1, 1, 1, 1, 1);
            for (int v = 1; v <= 15; v++) {
                due("change(0, 0, 0)", v);
            }
            quiet("count(7)", 16 * 24);
            for (int k = 0; k <= 2; k++) {
                due("keep(" + k + ")", 16);
            }
            quiet("count(10)", 3);
            for (int r = 0; r <= 5; r++) {
                due("row(" + r + ", 0)", 0);
                due("text(" + r % 4 + ", 0)", 0);
            }
            quiet("count(8)", 6);
            quiet("count(9)", 4);
        });
        sentence(39, "5 CONFLICTS of all VERSIONS", () -> {
            start("a1");
            change(0, 0, "2");
            change(0, 0, "3");
            change(0, 0, "4");
            due("merge(1, 2)", 4);
            quiet("count(5)", 1);
            // one within another is none of the FILE's
            due("merge(4, 3)", 5);
            quiet("count(5)", 2);
            change(5, 1, "7");
            quiet("count(5)", 3);
            due("undo(4)", 3);
            quiet("count(5)", 0);
        });
    }

    private static void finding() {
        sentence(40, "The latest FINDING (0 before any).", () -> {
            quiet("finding()", 0);
            due("row(6, 0)", BAD);
            due("keep(0)", STATE);
            quiet("finding()", 0);
            due("at(0, 0)", FINDING);
            quiet("finding()", 1);
            due("row(0, 0)", 0);
            due("at(6, 0)", BAD);
            quiet("finding()", 1);
            due("mean(0)", FINDING);
            quiet("finding()", 4);
            due("at(0, 0)", FINDING);
            quiet("finding()", 2);
            due("row(0, -1)", FINDING);
            quiet("finding()", 5);
            write(0, "");
            due("book(0)", 0);
            due("mark(0, 2)", FINDING);
            quiet("finding()", 3);
            due("undo(2)", BAD);
            due("lots(1, 1)", 2);
            quiet("finding()", 3);
        });
    }

    private static void findings() {
        sentence(41, "How often a FINDING (1 .. 5) was answered. BAD.", () -> {
            for (int bad : new int[] {0, 6, -1, LOWEST, HIGHEST}) {
                refused("findings(" + bad + ")", BAD);
            }
            for (int f = 1; f <= 5; f++) {
                quiet("findings(" + f + ")", 0);
            }
            for (int i = 0; i < 300; i++) {
                ask("tear(0)");
            }
            due("row(0, 0)", 0);
            due("mean(0)", FINDING);
            due("mean(0)", FINDING);
            due("at(0, 0)", FINDING);
            due("row(0, -1)", FINDING);
            due("row(0, 41)", BAD);
            write(0, "");
            due("book(0)", 0);
            due("mark(0, 3)", FINDING);
            due("mark(0, 4)", FINDING);
            due("mark(0, 2)", FINDING);
            due("findings(1)", 300);
            due("findings(2)", 1);
            due("findings(3)", 3);
            due("findings(4)", 2);
            due("findings(5)", 1);
            due("findings(0)", BAD);
            due("findings(6)", BAD);
        });
    }

    private static void digestIs(long... numbers) {
        long h = 17;
        for (long number : numbers) {
            h = 31 * h + number;
        }
        quiet("digest()", h);
    }

    private static void digest() {
        sentence(42, "h = 17; then h = 31 h + v for each v (of a call that tells by asked(): what it tells, not the 1 that it "
                + "answers; asked() stays): count() 0 to 10; of each VERSION version() 0 to 6, and of each FILE how many numbers "
                + "WRITTEN OUT (-1: missing), and these; of each kept BOOK how many VERSIONS (-1: missing); of each ROW its size "
                + "(-1: missing) and places, of each TEXT likewise.", () -> {
            digestIs(0, 0, 0, 0, 0, 0, 0, 0, 0, 0, 0, -1, -1, -1, -1, -1, -1, -1, -1, -1, -1, -1, -1, -1);
            start("a9b");
            fill(5, LOWEST, HIGHEST, 3);
            due("row(0, 0)", 0);
            due("text(3, 0)", 0);
            due("put(0, 2, -128)", 1098);
            due("keep(1)", 1);
            due("at(5, 2)", 1);
            digestIs(1, 0, 0, 0, 1, 0, 0, 1, 2, 2, 1,
                    1, NONE, NONE, 0b11, 0, 0, 0, 1, 9, 0, -1,
                    -1, 1, -1,
                    0, -1, -1, -1, -1, 3, LOWEST, HIGHEST, 3,
                    3, 97, 57, -128, -1, -1, 0);
            quiet("asked()", 3);
            start("a1");
            change(0, 0, "");
            due("drop(0, 0)", 2);
            due("merge(2, 1)", 3);
            due("tear(5)", 1);
            digestIs(4, 2, 1, 0, 1 << 3, 0, 1, 1, 0, 1, 0,
                    1, NONE, NONE, 1, 0, 0, 0, 1, 1, -1, -1,
                    2, 0, NONE, 1, 0, 0, 0, 0, -1, -1,
                    2, 0, NONE, 0, 0, 0, 0, -1, -1, -1,
                    3, 2, 1, 1, 1, 0, 0, 0, -1, -1,
                    -1, -1, -1, -1, -1, -1, -1, -1, -1,
                    2, 97, 49, -1, -1, -1);
        });
    }

    private static void digestEdges() {
        sentence(42, "asked() stays", () -> {
            fill(0, 8);
            told("at(0, 0)", 8);
            quiet("digest()", digestByCalls());
            quiet("asked()", 8);
            longCommon("333");
            due("merge(3, 6)", 13);
            due("keep(0)", 14);
            due("row(0, 40)", 40);
            due("text(3, 60)", 60);
            due("version(13, 6)", 1);
            quiet("digest()", digestByCalls());
            quiet("asked()", 2);
            fillUp();
            quiet("digest()", digestByCalls());
        });
    }
}
