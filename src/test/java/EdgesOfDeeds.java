/** Promises 21 to 25: CHANGED, DROPPED, SETTLED, MERGED, undone. */
final class EdgesOfDeeds extends Edges {
    private static final int[] NO_VERSIONS = {-1, 16, LOWEST, HIGHEST};
    private static final int[] NO_FILES = {-1, 3, LOWEST, HIGHEST};

    static void all() {
        change();
        changeRefused();
        drop();
        settle();
        settleRefused();
        mergeFiles();
        mergeTorn();
        matchLines();
        mergeLines();
        merge();
        mergeRefused();
        undo();
    }

    private static void change() {
        sentence(21, "CHANGED: of PARENT v FILE f is LINES of a ROW (0 to 8 figures): its number.", () -> {
            start("a12 b3");
            due("row(0, 0)", 0);
            deed("change(0, 0, 0)", 1);
            fileIs(1, 0, "");
            fileIs(1, 1, "3");
            fileIs(1, 2, MISSING);
            fill(0, 0, 9, 0, 9, 0, 9, 0, 9);
            deed("change(1, 2, 0)", 2);
            fileIs(2, 2, "0 9 0 9 0 9 0 9");
            fileIs(2, 0, "");
            traitIs(2, 1, 1);
            due("lay(0, 0, 5)", 1);
            fileIs(2, 2, "0 9 0 9 0 9 0 9");
            fill(5, 1, 2);
            deed("change(0, 0, 5)", 3);
            fileIs(3, 0, "1 2");
            traitIs(3, 0, 2);
        });
        sentence(21, "DEEDS make a VERSION behind all (its number is how many there were)", () -> {
            start("a1");
            due("row(0, 0)", 0);
            for (int v = 1; v <= 15; v++) {
                deed("change(0, 0, 0)", v);
            }
            due("undo(3)", 13);
            deed("drop(0, 0)", 3);
            fill(0, 7);
            deed("change(0, 0, 0)", 4);
            deed("merge(4, 3)", 5);
            deed("settle(5, 0, 0)", 6);
            due("count(0)", 7);
        });
        sentence(21, "CHANGED: of a PARENT, one FILE is other LINES, figures, not TORN.", () -> {
            tornOne();
            fill(0, 7);
            deed("change(3, 0, 0)", 4);
            traitIs(4, 4, 0);
            fileIs(4, 0, "7");
            deed("change(3, 1, 0)", 5);
            traitIs(5, 4, 1);
            fileIs(5, 0, "1 2 3 4");
            traitIs(3, 4, 1);
            crissCross();
            fill(0, 7);
            deed("change(3, 0, 0)", 5);
            traitIs(5, 5, 0);
            traitIs(3, 5, 1);
        });
    }

    private static void changeRefused() {
        sentence(21, "BAD; NOTHING; SIZE: more than 8; UNLIKE: one that is no figure; FULL: 16 VERSIONS.", () -> {
            start("a1");
            fill(0, 7);
            for (int bad : NO_VERSIONS) {
                refused("change(" + bad + ", 0, 0)", BAD);
            }
            refused("change(1, 0, 0)", BAD);
            for (int bad : NO_FILES) {
                refused("change(0, " + bad + ", 0)", BAD);
            }
            for (int bad : new int[] {-1, 6, LOWEST, HIGHEST}) {
                refused("change(0, 0, " + bad + ")", BAD);
            }
            found("change(0, 0, 1)", NOTHING);
            due("row(0, 9)", 9);
            found("change(0, 0, 0)", SIZE);
            due("row(0, 40)", 40);
            found("change(0, 0, 0)", SIZE);
            due("row(0, 8)", 8);
            for (int number : new int[] {10, -1, 13, LOWEST, HIGHEST}) {
                for (int place : new int[] {0, 7}) {
                    due("lay(0, " + place + ", " + number + ")", 1);
                    found("change(0, 0, 0)", UNLIKE);
                    due("lay(0, " + place + ", 9)", 1);
                }
            }
            fillUp();
            refused("change(0, 0, 0)", FULL);
            refused("change(15, 0, 0)", FULL);
        });
        sentence(21, "(In this order.)", () -> {
            start("a1");
            fillUp();
            due("row(0, 9)", 9);
            due("lay(0, 0, 10)", 1);
            fill(1, 10);
            due("row(3, 0)", 0);
            refused("change(16, 0, 2)", BAD);
            refused("change(0, 3, 2)", BAD);
            refused("change(16, 0, 0)", BAD);
            refused("change(16, 0, 3)", BAD);
            found("change(0, 0, 2)", NOTHING);
            found("change(0, 0, 0)", SIZE);
            found("change(0, 0, 1)", UNLIKE);
            refused("change(0, 0, 3)", FULL);
        });
    }

    private static void drop() {
        sentence(22, "DROPPED: its number.", () -> {
            start("a12 b3 c");
            deed("drop(0, 2)", 1);
            fileIs(1, 2, MISSING);
            fileIs(1, 0, "1 2");
            fileIs(1, 1, "3");
            fileIs(0, 2, "");
            deed("drop(1, 0)", 2);
            traitIs(2, 3, 0b10);
            traitIs(2, 1, 1);
            traitIs(2, 2, NONE);
            traitIs(2, 0, 2);
        });
        sentence(22, "DROPPED: one FILE is missing, not TORN.", () -> {
            tornOne();
            deed("drop(3, 0)", 4);
            fileIs(4, 0, MISSING);
            traitIs(4, 4, 0);
            traitIs(3, 4, 1);
            change(3, 1, "5");
            deed("drop(5, 1)", 6);
            traitIs(6, 4, 1);
            crissCross();
            deed("drop(3, 0)", 5);
            traitIs(5, 5, 0);
        });
        sentence(22, "BAD; STATE: it is missing; FULL. (FULL last.)", () -> {
            start("a1");
            for (int bad : NO_VERSIONS) {
                refused("drop(" + bad + ", 0)", BAD);
                refused("drop(" + bad + ", 1)", BAD);
            }
            refused("drop(1, 0)", BAD);
            for (int bad : NO_FILES) {
                refused("drop(0, " + bad + ")", BAD);
            }
            refused("drop(0, 1)", STATE);
            deed("drop(0, 0)", 1);
            refused("drop(1, 0)", STATE);
            fillUp();
            refused("drop(0, 0)", FULL);
            refused("drop(0, 1)", STATE);
            refused("drop(1, 0)", STATE);
            refused("drop(16, 0)", BAD);
            refused("drop(0, 3)", BAD);
        });
    }

    private static void settle() {
        sentence(23, "SETTLED by a side: its number.", () -> {
            start("a123b1");
            change(0, 0, "456");
            change(0, 0, "72");
            due("merge(1, 2)", 3);
            fileIs(3, 0, "10 4 5 6 11 1 2 3 12 7 2 13");
            deed("settle(3, 0, 0)", 4);
            deed("settle(3, 0, 1)", 5);
            deed("settle(3, 0, 2)", 6);
            fileIs(4, 0, "4 5 6");
            fileIs(5, 0, "1 2 3");
            fileIs(6, 0, "7 2");
            fileIs(6, 1, "1");
            traitIs(6, 0, 2);
            traitIs(6, 1, 3);
            traitIs(6, 2, NONE);
            fileIs(3, 0, "10 4 5 6 11 1 2 3 12 7 2 13");
        });
        sentence(23, "SETTLED: in one FILE each CONFLICT (not those in it) is its LINES of one side (0 OURS, 1 BASE, 2 "
                + "THEIRS); it is not TORN.", () -> {
            start("a123b1");
            change(0, 0, "426");
            change(0, 0, "52");
            due("merge(1, 2)", 3);
            fileIs(3, 0, "10 4 11 1 12 5 13 2 10 6 11 3 12 13");
            deed("settle(3, 0, 2)", 4);
            fileIs(4, 0, "5 2");
            change(0, 0, "728");
            due("merge(5, 3)", 6);
            fileIs(6, 0, "10 7 11 1 12 10 4 11 1 12 5 13 13 2 10 8 11 3 12 10 6 11 3 12 13 13");
            deed("settle(6, 0, 2)", 7);
            fileIs(7, 0, "10 4 11 1 12 5 13 2 10 6 11 3 12 13");
            deed("settle(6, 0, 0)", 8);
            fileIs(8, 0, "7 2 8");
            deed("settle(6, 0, 1)", 9);
            fileIs(9, 0, "1 2 3");
            deed("settle(7, 0, 2)", 10);
            fileIs(10, 0, "5 2");
            // a side of no LINES alone
            start("a1");
            change(0, 0, "");
            change(0, 0, "2");
            due("merge(1, 2)", 3);
            deed("settle(3, 0, 0)", 4);
            fileIs(4, 0, "");
            settleTorn();
        });
    }

    private static void settleTorn() {
        for (int side = 0; side <= 2; side++) {
            tornOne();
            deed("settle(3, 0, " + side + ")", 4);
            fileIs(4, 0, "1 2 3 4");
            traitIs(4, 4, 0);
            refused("settle(4, 0, " + side + ")", STATE);
        }
        // TORN, and with a CONFLICT
        start("a1");
        change(0, 0, "2");
        change(0, 0, "3");
        due("merge(1, 2)", 3);
        due("drop(0, 0)", 4);
        due("merge(4, 3)", 5);
        fileIs(5, 0, "10 2 11 1 12 3 13");
        traitIs(5, 4, 1);
        deed("settle(5, 0, 2)", 6);
        fileIs(6, 0, "3");
        traitIs(6, 4, 0);
        traitIs(5, 4, 1);
    }

    private static void settleRefused() {
        sentence(23, "BAD; STATE: the FILE has no CONFLICT and is not TORN; FULL. (FULL last.)", () -> {
            crissCross();
            for (int bad : new int[] {-1, 3, LOWEST, HIGHEST}) {
                refused("settle(3, 0, " + bad + ")", BAD);
                refused("settle(0, 0, " + bad + ")", BAD);
                refused("settle(3, " + bad + ", 0)", BAD);
            }
            for (int bad : NO_VERSIONS) {
                refused("settle(" + bad + ", 0, 0)", BAD);
            }
            refused("settle(5, 0, 0)", BAD);
            for (int side = 0; side <= 2; side++) {
                refused("settle(0, 0, " + side + ")", STATE);
                refused("settle(3, 1, " + side + ")", STATE);
            }
            fillUp();
            refused("settle(3, 0, 0)", FULL);
            refused("settle(0, 0, 0)", STATE);
            refused("settle(3, 1, 2)", STATE);
            refused("settle(3, 0, 3)", BAD);
            refused("settle(16, 0, 0)", BAD);
            tornOne();
            fillUp();
            refused("settle(3, 0, 1)", FULL);
        });
    }

    private static void mergeFiles() {
        sentence(24, "MERGED are two VERSIONS, OURS and THEIRS, over a BASE, FILE by FILE: if OURS is ALIKE THEIRS (both "
                + "missing, too), that;", () -> {
            start("a1b1c1");
            change(0, 0, "");
            change(0, 0, "");
            due("drop(1, 1)", 3);
            due("drop(2, 1)", 4);
            deed("merge(3, 4)", 5);
            fileIs(5, 0, "");
            fileIs(5, 1, MISSING);
            fileIs(5, 2, "1");
            traitIs(5, 4, 0);
        });
        sentence(24, "else if OURS is ALIKE BASE, THEIRS; else if THEIRS is ALIKE BASE, OURS (missing, if that is);", () -> {
            start("a1b1");
            due("drop(0, 0)", 1);
            change(0, 1, "2");
            change(2, 2, "");
            deed("merge(1, 3)", 4);
            deed("merge(3, 1)", 5);
            for (int v = 4; v <= 5; v++) {
                fileIs(v, 0, MISSING);
                fileIs(v, 1, "2");
                fileIs(v, 2, "");
                traitIs(v, 4, 0);
            }
        });
        sentence(24, "else, if one of both is missing, the other one, TORN;", () -> {
            start("a1b");
            due("drop(0, 0)", 1);
            due("drop(1, 1)", 2);
            change(0, 0, "");
            change(3, 1, "2");
            deed("merge(2, 4)", 5);
            deed("merge(4, 2)", 6);
            for (int v = 5; v <= 6; v++) {
                fileIs(v, 0, "");
                fileIs(v, 1, "2");
                traitIs(v, 4, 3);
            }
        });
        sentence(24, "LINES are ALIKE, if they are alike WRITTEN OUT; rows, FILES likewise.", () -> {
            // a FILE of no LINES is there, so it is not ALIKE a missing one
            start("a");
            due("drop(0, 0)", 1);
            change(0, 1, "5");
            deed("merge(1, 2)", 3);
            fileIs(3, 0, MISSING);
            start("b");
            change(0, 0, "");
            change(0, 0, "1");
            deed("merge(1, 2)", 3);
            fileIs(3, 0, "1");
            traitIs(3, 4, 0);
            start("a");
            due("drop(0, 0)", 1);
            change(0, 0, "1");
            deed("merge(1, 2)", 3);
            fileIs(3, 0, "1");
            traitIs(3, 4, 1);
            // CONFLICTS that are ALIKE are made in two ways
            start("a1");
            change(0, 0, "2");
            change(0, 0, "3");
            change(0, 0, "2");
            change(0, 0, "3");
            due("merge(1, 2)", 5);
            due("merge(3, 4)", 6);
            deed("merge(5, 6)", 7);
            fileIs(7, 0, "10 2 11 1 12 3 13");
        });
        sentence(24, "else their LINES are MERGED (BASE of no LINES, if it is missing).", () -> {
            start("b");
            change(0, 0, "12");
            change(0, 0, "13");
            deed("merge(1, 2)", 3);
            fileIs(3, 0, "10 1 2 11 12 1 3 13");
            traitIs(3, 4, 0);
        });
    }

    private static void mergeTorn() {
        sentence(24, "It is TORN also if it is so in OURS or THEIRS, but is not missing.", () -> {
            tornOne();
            change(3, 1, "5");
            due("settle(3, 0, 0)", 5);
            deed("merge(4, 5)", 6);
            deed("merge(5, 4)", 7);
            due("drop(5, 0)", 8);
            deed("merge(4, 8)", 9);
            deed("merge(8, 4)", 10);
            change(3, 0, "0234");
            change(3, 0, "1239");
            deed("merge(11, 12)", 13);
            traitIs(6, 4, 1);
            traitIs(7, 4, 1);
            for (int v = 9; v <= 10; v++) {
                fileIs(v, 0, MISSING);
                traitIs(v, 4, 0);
            }
            fileIs(13, 0, "0 2 3 9");
            traitIs(13, 4, 0);
            deed("merge(4, 13)", 14);
            fileIs(14, 0, "0 2 3 9");
            traitIs(14, 4, 1);
        });
        sentence(24, "VERSIONS 0 .. (16 at most; none at first): each has FILES 0, 1, 2, each of which is a row of LINES, or "
                + "missing, and is TORN, or not.", () -> {
            start("a1b1c1");
            for (int f = 0; f <= 2; f++) {
                due("drop(" + f + ", " + f + ")", f + 1);
            }
            change(0, 0, "2");
            change(4, 2, "3");
            deed("merge(3, 5)", 6);
            traitIs(6, 3, 0b101);
            traitIs(6, 4, 0b101);
            deed("settle(6, 2, 0)", 7);
            traitIs(7, 4, 0b001);
            deed("settle(7, 0, 1)", 8);
            traitIs(8, 4, 0);
        });
    }

    /** What LINES of a BASE and both sides are MERGED to. */
    private static void linesMerged(String base, String ours, String theirs, String want) {
        start("a" + base);
        change(0, 0, ours);
        change(0, 0, theirs);
        deed("merge(1, 2)", 3);
        fileIs(3, 0, want);
    }

    private static void matchLines() {
        sentence(24, "LINES MERGED: BASE and each side by themselves are matched: from the first LINES of both on: if both "
                + "LINES are ALIKE, they are;", () -> {
            linesMerged("11", "1", "112", "1 10 11 1 12 1 2 13");
            linesMerged("1", "11", "21", "2 1 1");
            linesMerged("12345678", "12345670", "92345678", "9 2 3 4 5 6 7 0");
        });
        sentence(24, "else the LINE of BASE is passed over, if as many can be matched without it; else that of the side.",
                () -> {
            linesMerged("12", "21", "123", "2 10 1 11 12 3 13");
            linesMerged("12", "123", "21", "2 10 3 11 12 1 13");
            linesMerged("12", "312", "124", "3 1 2 4");
            linesMerged("123", "143", "125", "1 10 4 3 11 2 3 12 2 5 13");
        });
        sentence(24, "(How many can be matched: as many LINES as can be, ALIKE, in order.)", () -> {
            linesMerged("1234", "2413", "12345", "2 4 10 1 3 11 12 5 13");
            linesMerged("12345", "51234", "123456", "5 1 2 3 4 10 11 5 12 5 6 13");
        });
        sentence(24, "A LINE of BASE matched on both sides STAYS.", () -> {
            linesMerged("123", "13", "12", "1 10 3 11 2 3 12 2 13");
            linesMerged("123456789".substring(0, 8), "1357", "2468", "10 1 3 5 7 11 1 2 3 4 5 6 7 8 12 2 4 6 8 13");
            linesMerged("12", "32", "14", "10 3 2 11 1 2 12 1 4 13");
            linesMerged("56789", "6789", "5678", "6 7 8");
            // a CONFLICT as a LINE of BASE
            start("a123");
            change(0, 0, "173");
            change(0, 0, "183");
            merge(1, 2);
            change(0, 0, "5123");
            due("merge(3, 4)", 5);
            change(0, 0, "1236");
            due("merge(3, 6)", 7);
            deed("merge(5, 7)", 8);
            fileIs(8, 0, "5 1 10 7 11 2 12 8 13 3 6");
        });
    }

    private static void mergeLines() {
        sentence(24, "Between such ones (ahead of the first, behind the last one) lie a row of BASE, of OURS, of THEIRS (of no "
                + "LINES, or some): if OURS is ALIKE THEIRS, that comes there;", () -> {
            linesMerged("5", "15", "25", "10 1 11 12 2 13 5");
            linesMerged("5", "51", "52", "5 10 1 11 12 2 13");
            linesMerged("56", "516", "526", "5 10 1 11 12 2 13 6");
            linesMerged("152", "354", "356", "3 5 10 4 11 2 12 6 13");
            linesMerged("12", "1", "17", "1 10 11 2 12 7 13");
            linesMerged("4", "45", "45", "4 5");
            linesMerged("45", "4", "4", "4");
        });
        sentence(24, "else if OURS is ALIKE BASE, THEIRS; else if THEIRS is ALIKE BASE, OURS; else a CONFLICT of all three.",
                () -> {
            linesMerged("152", "157", "352", "3 5 7");
            linesMerged("152", "352", "157", "3 5 7");
            linesMerged("152", "52", "15", "5");
            linesMerged("4", "5", "6", "10 5 11 4 12 6 13");
            linesMerged("4", "", "5", "10 11 4 12 5 13");
            linesMerged("4", "5", "", "10 5 11 4 12 13");
            linesMerged("", "5", "6", "10 5 11 12 6 13");
        });
        sentence(24, "A FILE may be 40 numbers WRITTEN OUT at most (in a COMMON, too).", () -> {
            longCommon("333");
            deed("merge(3, 6)", 13);
            due("file(13, 0, 0)", 40);
            due("lines(13, 0)", 1);
            deed("merge(6, 3)", 14);
            due("file(14, 0, 0)", 40);
            longCommon("3333");
            refused("merge(3, 6)", SPENT);
            refused("merge(6, 3)", SPENT);
            // LINES that STAY are counted, too: 19, 1, 15, 4 and 1, or one more
            start("a07");
            change(0, 0, "11111117");
            change(0, 0, "22222227");
            change(0, 0, "4444447");
            change(0, 0, "55557");
            change(0, 0, "555557");
            due("merge(1, 2)", 6);
            due("merge(3, 4)", 7);
            due("merge(3, 5)", 8);
            deed("merge(6, 7)", 9);
            due("file(9, 0, 0)", 40);
            refused("merge(6, 8)", SPENT);
        });
    }

    private static void merge() {
        sentence(24, "MERGED: a is the first PARENT (OURS), b the second one (THEIRS): its number.", () -> {
            start("a1");
            change(0, 0, "2");
            change(0, 0, "3");
            deed("merge(2, 1)", 3);
            traitIs(3, 0, 3);
            traitIs(3, 1, 2);
            traitIs(3, 2, 1);
            fileIs(3, 0, "10 3 11 1 12 2 13");
            deed("merge(1, 2)", 4);
            deed("merge(2, 1)", 5);
            fillUp();
            due("undo(15)", 1);
            deed("merge(1, 2)", 15);
            fileIs(15, 0, "10 2 11 1 12 3 13");
        });
        sentence(24, "MERGED: two VERSIONS, none of which is an ANCESTOR of the other one, over their COMMON.", () -> {
            crissCross();
            deed("merge(3, 4)", 5);
            traitIs(5, 0, 4);
            change(3, 0, "080");
            deed("merge(6, 4)", 7);
            fileIs(7, 0, "0 10 8 11 10 1 11 0 12 2 13 12 10 2 11 0 12 1 13 13 0");
            deed("merge(6, 5)", 8);
            fileIs(8, 0, "0 10 8 11 10 1 11 0 12 2 13 12 10 2 11 0 12 1 13 13 0");
        });
    }

    private static void mergeRefused() {
        sentence(24, "BAD (the same one, too); STATE: one is an ANCESTOR of the other one; SPENT: a FILE would be more than 40; "
                + "FULL. (FULL last.)", () -> {
            tornOne();
            for (int bad : NO_VERSIONS) {
                refused("merge(" + bad + ", 1)", BAD);
                refused("merge(1, " + bad + ")", BAD);
            }
            refused("merge(0, 0)", BAD);
            refused("merge(2, 2)", BAD);
            refused("merge(4, 1)", BAD);
            refused("merge(1, 4)", BAD);
            for (String pair : new String[] {"0, 1", "1, 0", "0, 3", "3, 0", "1, 3", "3, 1", "2, 3", "3, 2"}) {
                refused("merge(" + pair + ")", STATE);
            }
            fillUp();
            refused("merge(1, 2)", FULL);
            refused("merge(3, 2)", STATE);
            refused("merge(0, 15)", STATE);
            refused("merge(2, 2)", BAD);
            refused("merge(16, 2)", BAD);
            longCommon("3333");
            refused("merge(3, 6)", SPENT);
            refused("merge(9, 12)", SPENT);
            fillUp();
            refused("merge(3, 6)", SPENT);
            refused("merge(12, 9)", SPENT);
            refused("merge(1, 2)", FULL);
        });
    }

    private static void undo() {
        sentence(25, "VERSIONS from number n (1 .. how many there are) on are gone: how many. BAD.", () -> {
            refused("undo(1)", BAD);
            refused("undo(0)", BAD);
            start("a1");
            quiet("undo(1)", 0);
            refused("undo(2)", BAD);
            fillUp();
            due("keep(0)", 16);
            for (int bad : new int[] {0, -1, 17, LOWEST, HIGHEST}) {
                refused("undo(" + bad + ")", BAD);
            }
            quiet("undo(16)", 0);
            deed("undo(15)", 1);
            due("count(0)", 15);
            refused("undo(16)", BAD);
            refused("lines(15, 0)", BAD);
            quiet("lines(14, 2)", 0);
            deed("undo(1)", 14);
            due("count(0)", 1);
            quiet("count(4)", 1);
            fileIs(0, 0, "1");
            due("on(0)", 16);
            // what is gone leaves nothing behind
            tornOne();
            deed("undo(1)", 3);
            change(0, 1, "5");
            traitIs(1, 4, 0);
            fileIs(1, 0, "1 2 3");
            traitIs(1, 2, NONE);
        });
    }
}
