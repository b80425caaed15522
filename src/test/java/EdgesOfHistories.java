/** Promises 10 to 15: FAULTS, BOOKS, what a VERSION is. */
final class EdgesOfHistories extends Edges {
    private static final int[] NO_VERSIONS = {-1, 16, LOWEST, HIGHEST};

    static void all() {
        faultsOfFiles();
        faultsOfSigns();
        fault();
        book();
        versionFields();
        versionConflicts();
        kinds();
        mark();
        file();
        lines();
    }

    private static void faultAt(String signs, int want) {
        write(1, signs);
        quiet("fault(1)", want);
    }

    private static void faultsOfFiles() {
        sentence(10, "VERSION 0 is a TEXT: FILES in any order", () -> {
            faultAt("abc", NONE);
            faultAt("cba", NONE);
            faultAt("b1a2", NONE);
            faultAt("c", NONE);
        });
        sentence(10, "blanks (32) ahead, between, behind as many as wanted", () -> {
            faultAt(" ".repeat(57) + "abc", NONE);
            faultAt("a1" + " ".repeat(56) + "b2", NONE);
            faultAt("a" + " ".repeat(59), NONE);
            faultAt(" ".repeat(60), NONE);
            faultAt("  a1  b  c22  ", NONE);
            faultAt("a1b2c3", NONE);
        });
        sentence(10, "a (97), b, c for FILES 0, 1, 2", () -> {
            write(0, "a1 b2 c3");
            due("book(0)", 3);
            fileIs(0, 0, "1");
            fileIs(0, 1, "2");
            fileIs(0, 2, "3");
            faultAt("`", 0);
            faultAt("d", 0);
            faultAt("A", 0);
        });
        sentence(10, "each once at most", () -> {
            faultAt("aa", 1);
            faultAt("bb", 1);
            faultAt("abca", 3);
            faultAt("a1 b2 c3 c", 9);
            faultAt("a        a", 9);
        });
        sentence(10, "with 0 to 8 figures (48 ..) right behind it", () -> {
            faultAt("a", NONE);
            faultAt("a0", NONE);
            faultAt("a01234567", NONE);
            faultAt("c99999999b00000000a12345678", NONE);
            faultAt("a01234567 8", 10);
            faultAt("a 1", 2);
            faultAt("a1 2", 3);
            faultAt("0", 0);
            faultAt(" 1a", 1);
            faultAt("a/", 1);
            faultAt("a:", 1);
        });
    }

    private static void faultsOfSigns() {
        sentence(10, "A FAULT is the first place at which it can't go on so: a sign that can't be there, a FILE that was "
                + "told already, a ninth figure; NONE (a TEXT without FILES is well).", () -> {
            faultAt("", NONE);
            faultAt(" ", NONE);
            faultAt("x", 0);
            faultAt("a1x2x", 2);
            faultAt("xaa", 0);
            faultAt("aax", 1);
            faultAt("a012345678", 9);
            faultAt("a0123456789", 9);
            faultAt("a01234567a", 9);
            faultAt("b1a012345678a", 11);
            faultAt(" ".repeat(59) + "x", 59);
            faultAt(" ".repeat(59) + "7", 59);
            faultAt(" ".repeat(50) + "a000000000", 59);
            faultAt("a" + " ".repeat(58) + "a", 59);
            faultAt("a\t", 1);
            for (int sign : new int[] {0, -1, -128, 127, 31, 33, -96, -97, -48, 10}) {
                due("text(1, 2)", 2);
                due("put(1, 1, " + sign + ")", 1032);
                quiet("fault(1)", 1);
            }
        });
    }

    private static void fault() {
        sentence(10, "A FAULT of a TEXT; NONE: there is none. BAD; NOTHING.", () -> {
            found("fault(0)", NOTHING);
            found("fault(3)", NOTHING);
            for (int t : new int[] {-1, 4, LOWEST, HIGHEST}) {
                refused("fault(" + t + ")", BAD);
            }
            write(3, "a1a");
            quiet("fault(3)", 2);
            due("put(3, 2, 98)", 1097);
            quiet("fault(3)", NONE);
            due("text(3, 0)", 0);
            quiet("fault(3)", NONE);
            quiet("count(0)", 0);
        });
    }

    private static void book() {
        sentence(11, "VERSION 0 by a TEXT, alone (kept BOOKS go): how many FILES.", () -> {
            write(1, "");
            due("book(1)", 0);
            due("count(0)", 1);
            traitIs(0, 3, 0);
            write(2, " b01234567c ");
            due("book(2)", 2);
            fileIs(0, 0, MISSING);
            fileIs(0, 1, "0 1 2 3 4 5 6 7");
            fileIs(0, 2, "");
            fillUp();
            due("keep(0)", 16);
            due("keep(1)", 16);
            due("keep(2)", 16);
            write(3, "c3b2a1");
            due("book(3)", 3);
            due("count(0)", 1);
            due("count(10)", 0);
            for (int k = 0; k <= 2; k++) {
                found("on(" + k + ")", NOTHING);
            }
            traitIs(0, 0, 1);
            tornOne();
            due("would(1, 2)", 0);
            due("book(0)", 1);
            traitIs(0, 4, 0);
            fileIs(0, 0, "1 2 3");
        });
        sentence(11, "BAD; NOTHING; STATE: a FAULT. (STATE behind NOTHING.)", () -> {
            start("a12");
            change(0, 0, "3");
            due("keep(1)", 2);
            write(1, "b1b");
            refused("book(1)", STATE);
            write(1, "a000000000");
            refused("book(1)", STATE);
            due("text(1, 1)", 1);
            due("put(1, 0, 48)", 1032);
            refused("book(1)", STATE);
            found("book(2)", NOTHING);
            found("book(3)", NOTHING);
            for (int t : new int[] {-1, 4, LOWEST, HIGHEST}) {
                refused("book(" + t + ")", BAD);
            }
            anew();
            write(3, "x");
            refused("book(3)", STATE);
            quiet("count(0)", 0);
        });
    }

    private static void versionFields() {
        sentence(12, "Of a VERSION: 0 its KIND, 1, 2 its first, second PARENT (NONE), 3 FILES that are not missing (bits), "
                + "4 TORN ones (bits)", () -> {
            start("b1");
            told("version(0, 0)", 1);
            told("version(0, 1)", NONE);
            told("version(0, 2)", NONE);
            told("version(0, 3)", 2);
            told("version(0, 4)", 0);
            change(0, 0, "");
            told("version(1, 0)", 2);
            told("version(1, 1)", 0);
            told("version(1, 2)", NONE);
            told("version(1, 3)", 3);
            due("drop(0, 1)", 2);
            told("version(2, 3)", 0);
            change(0, 1, "5");
            due("merge(3, 2)", 4);
            told("version(4, 0)", 3);
            told("version(4, 1)", 3);
            told("version(4, 2)", 2);
            told("version(4, 4)", 2);
            tornAll();
            told("version(3, 3)", 0);
            told("version(7, 3)", 7);
            told("version(7, 4)", 7);
        });
        sentence(12, "told by asked(): 1. BAD.", () -> {
            start("a1");
            for (int what : new int[] {-1, 7, LOWEST, HIGHEST}) {
                refused("version(0, " + what + ")", BAD);
            }
            told("version(0, 6)", 0);
            for (int v : NO_VERSIONS) {
                refused("version(" + v + ", 0)", BAD);
            }
            refused("version(1, 0)", BAD);
            fillUp();
            told("version(15, 0)", 2);
            refused("version(16, 0)", BAD);
            due("undo(15)", 1);
            refused("version(15, 0)", BAD);
        });
    }

    private static void versionConflicts() {
        sentence(12, "5 CONFLICTS of all FILES (not those in others), 6 how deep they lie in one another at most (0: none)",
                () -> {
            start("a123b1c1");
            told("version(0, 5)", 0);
            told("version(0, 6)", 0);
            change(0, 0, "426");
            change(1, 1, "4");
            change(0, 0, "527");
            change(3, 1, "5");
            due("merge(2, 4)", 5);
            fileIs(5, 0, "10 4 11 1 12 5 13 2 10 6 11 3 12 7 13");
            fileIs(5, 1, "10 4 11 1 12 5 13");
            told("version(5, 5)", 3);
            told("version(5, 6)", 1);
            change(0, 1, "6");
            due("merge(5, 6)", 7);
            fileIs(7, 1, "10 10 4 11 1 12 5 13 11 1 12 6 13");
            told("version(7, 5)", 3);
            told("version(7, 6)", 2);
            change(0, 1, "7");
            due("merge(8, 7)", 9);
            fileIs(9, 1, "10 7 11 1 12 10 10 4 11 1 12 5 13 11 1 12 6 13 13");
            told("version(9, 5)", 3);
            told("version(9, 6)", 3);
        });
        sentence(12, "how deep they lie in one another at most", () -> {
            crossOfCrosses();
            fileIs(7, 0, "10 4 11 10 2 11 1 12 3 13 12 5 13");
            told("version(7, 5)", 1);
            told("version(7, 6)", 2);
            due("merge(3, 4)", 9);
            fileIs(9, 0, "10 3 11 1 12 2 13");
        });
    }

    private static void kinds() {
        sentence(12, "KINDS: 0 VERSION, 1 ROOT (VERSION 0; a VERSION), 2 CHANGE (one PARENT; a VERSION), 3 MERGE (two; a "
                + "VERSION), 4 KNOT (a MERGE whose PARENTS had several NEAREST; a MERGE).", () -> {
            crissCross();
            due("merge(4, 3)", 5);
            due("drop(5, 0)", 6);
            due("settle(3, 0, 1)", 7);
            due("merge(7, 4)", 8);
            int[] kinds = {1, 2, 2, 3, 3, 4, 2, 2, 4};
            for (int v = 0; v < kinds.length; v++) {
                told("version(" + v + ", 0)", kinds[v]);
            }
        });
        sentence(12, "VERSIONS have PARENTS: none (VERSION 0), one, or two (a first, a second one), lower ones.", () -> {
            crissCross();
            due("merge(4, 3)", 5);
            int[] firsts = {NONE, 0, 0, 1, 2, 4};
            int[] seconds = {NONE, NONE, NONE, 2, 1, 3};
            for (int v = 0; v < firsts.length; v++) {
                told("version(" + v + ", 1)", firsts[v]);
                told("version(" + v + ", 2)", seconds[v]);
            }
        });
    }

    private static void mark() {
        sentence(13, "What a VERSION that IS of a KIND tells by asked(): 1: a ROOT how many FILES are not missing, a CHANGE "
                + "how far it is APART from its PARENT, a MERGE (KNOT, too) its NEAREST (bits) of both PARENTS, a KNOT how "
                + "many there are.", () -> {
            start("");
            told("mark(0, 1)", 0);
            start("abc");
            told("mark(0, 1)", 3);
            start("a12345678");
            told("mark(0, 1)", 1);
            change(0, 0, "");
            change(0, 0, "12345678");
            change(0, 0, "00000000");
            told("mark(1, 2)", 8);
            told("mark(2, 2)", 0);
            told("mark(3, 2)", 16);
            due("drop(0, 0)", 4);
            told("mark(4, 2)", 8);
            due("merge(1, 4)", 5);
            told("mark(5, 3)", 1);
            due("settle(5, 0, 0)", 6);
            told("mark(6, 2)", 0);
            crissCross();
            due("merge(3, 4)", 5);
            told("mark(5, 3)", 0b110);
            told("mark(5, 4)", 2);
            told("mark(3, 3)", 1);
        });
        sentence(13, "BAD: also KIND 0; UNLIKE.", () -> {
            crissCross();
            due("merge(3, 4)", 5);
            int[] kinds = {1, 2, 2, 3, 3, 4};
            for (int v = 0; v < kinds.length; v++) {
                for (int kind = 1; kind <= 4; kind++) {
                    if (kind != kinds[v] && !(kind == 3 && kinds[v] == 4)) {
                        found("mark(" + v + ", " + kind + ")", UNLIKE);
                    }
                }
                for (int kind : new int[] {0, 5, -1, LOWEST, HIGHEST}) {
                    refused("mark(" + v + ", " + kind + ")", BAD);
                }
            }
            refused("mark(6, 1)", BAD);
            refused("mark(6, 2)", BAD);
            for (int v : NO_VERSIONS) {
                refused("mark(" + v + ", 2)", BAD);
            }
        });
    }

    private static void file() {
        sentence(14, "A FILE of a VERSION WRITTEN OUT to a ROW (anew): how many numbers.", () -> {
            start("a01234567 b");
            fill(0, 9, 9, 9, 9, 9, 9, 9, 9, 9);
            due("file(0, 0, 0)", 8);
            rowIs(0, "0 1 2 3 4 5 6 7");
            due("file(0, 1, 0)", 0);
            rowIs(0, "");
            due("file(0, 0, 5)", 8);
            rowIs(5, "0 1 2 3 4 5 6 7");
            due("lay(5, 0, 9)", 1);
            fileIs(0, 0, "0 1 2 3 4 5 6 7");
            due("count(8)", 2);
            longCommon("333");
            due("undo(7)", 6);
            due("merge(3, 6)", 7);
            due("file(7, 0, 2)", 40);
            rowIs(2, "10 10 1 1 1 1 1 1 1 1 11 0 12 2 2 2 2 2 2 2 2 13 11 0 12 10 4 4 4 4 4 4 11 0 12 3 3 3 13 13");
        });
        sentence(14, "WRITTEN OUT a figure is itself, a CONFLICT 10, OURS, 11, BASE, 12, THEIRS, 13, one behind the other "
                + "(rows of LINES likewise).", () -> {
            start("a909");
            fileIs(0, 0, "9 0 9");
            change(0, 0, "99");
            change(0, 0, "9129");
            due("merge(1, 2)", 3);
            fileIs(3, 0, "9 10 11 0 12 1 2 13 9");
            due("merge(2, 1)", 4);
            fileIs(4, 0, "9 10 1 2 11 0 12 13 9");
            start("a");
            change(0, 0, "1");
            change(0, 0, "2");
            due("merge(1, 2)", 3);
            fileIs(3, 0, "10 1 11 12 2 13");
        });
        sentence(14, "NONE: it is missing. BAD.", () -> {
            start("a1");
            fill(1, 7, 8);
            quiet("file(0, 1, 1)", NONE);
            quiet("file(0, 2, 0)", NONE);
            rowIs(1, "7 8");
            rowIs(0, MISSING);
            due("drop(0, 0)", 1);
            quiet("file(1, 0, 1)", NONE);
            for (int bad : new int[] {-1, 6, LOWEST, HIGHEST}) {
                refused("file(0, 0, " + bad + ")", BAD);
                refused("file(0, 1, " + bad + ")", BAD);
            }
            for (int bad : new int[] {-1, 3, LOWEST, HIGHEST}) {
                refused("file(0, " + bad + ", 1)", BAD);
            }
            for (int bad : NO_VERSIONS) {
                refused("file(" + bad + ", 0, 1)", BAD);
            }
            refused("file(2, 0, 1)", BAD);
        });
    }

    private static void lines() {
        sentence(15, "LINES of a FILE; NONE: it is missing. BAD.", () -> {
            start("a01234567b");
            quiet("lines(0, 0)", 8);
            quiet("lines(0, 1)", 0);
            quiet("lines(0, 2)", NONE);
            due("drop(0, 0)", 1);
            quiet("lines(1, 0)", NONE);
            for (int bad : new int[] {-1, 3, LOWEST, HIGHEST}) {
                refused("lines(0, " + bad + ")", BAD);
            }
            for (int bad : NO_VERSIONS) {
                refused("lines(" + bad + ", 0)", BAD);
            }
            refused("lines(2, 0)", BAD);
        });
        sentence(15, "A LINE is a figure 0 .. 9, or a CONFLICT: three rows of LINES: OURS, BASE, THEIRS.", () -> {
            start("a1234");
            change(0, 0, "0974");
            change(0, 0, "56784");
            due("merge(1, 2)", 3);
            fileIs(3, 0, "10 0 9 7 11 1 2 3 12 5 6 7 8 13 4");
            quiet("lines(3, 0)", 2);
            change(0, 0, "4");
            due("merge(3, 4)", 5);
            fileIs(5, 0, "10 10 0 9 7 11 1 2 3 12 5 6 7 8 13 11 1 2 3 12 13 4");
            quiet("lines(5, 0)", 2);
        });
    }
}
