/** Promises 16 to 20: ANCESTORS, NEAREST, COMMONS, and what would be MERGED. */
final class EdgesOfMerges extends Edges {
    private static final int[] NO_VERSIONS = {-1, 16, LOWEST, HIGHEST};
    private static final String CROSSED = "0 10 1 11 0 12 2 13 0";

    static void all() {
        ancestors();
        nearest();
        commonOfOneOrTwo();
        commonOfMore();
        common();
        commonSpent();
        would();
        wouldRefused();
        mirrored();
        mirroredRefused();
    }

    /** Two VERSIONS that are none: each in turn as the first and as the second one. */
    private static void pairsRefused(String call, String rest) {
        for (int bad : NO_VERSIONS) {
            refused(call + "(" + bad + ", 1" + rest + ")", BAD);
            refused(call + "(1, " + bad + rest + ")", BAD);
        }
        long versions = ask("count(0)");
        refused(call + "(" + versions + ", 1" + rest + ")", BAD);
        refused(call + "(1, " + versions + rest + ")", BAD);
        refused(call + "(0, 0" + rest + ")", BAD);
        refused(call + "(1, 1" + rest + ")", BAD);
        refused(call + "(-1, -1" + rest + ")", BAD);
    }

    private static void ancestors() {
        sentence(16, "ANCESTORS (bits). BAD.", () -> {
            refused("ancestors(0)", BAD);
            start("a1");
            quiet("ancestors(0)", 1);
            refused("ancestors(1)", BAD);
            for (int bad : NO_VERSIONS) {
                refused("ancestors(" + bad + ")", BAD);
            }
            due("row(0, 0)", 0);
            for (int v = 0; v < 15; v++) {
                due("change(" + v + ", 0, 0)", v + 1);
            }
            quiet("ancestors(15)", 0xffff);
            refused("ancestors(16)", BAD);
        });
        sentence(16, "ANCESTORS of one: itself, its PARENTS, theirs, and so on.", () -> {
            crissCross();
            change(3, 0, "5");
            due("merge(5, 4)", 6);
            int[] ancestors = {0b1, 0b11, 0b101, 0b1111, 0b10111, 0b101111, 0b1111111};
            for (int v = 0; v < ancestors.length; v++) {
                quiet("ancestors(" + v + ")", ancestors[v]);
            }
            due("undo(2)", 5);
            change(0, 0, "7");
            quiet("ancestors(2)", 0b101);
            change(1, 0, "7");
            quiet("ancestors(3)", 0b1011);
        });
    }

    private static void nearest() {
        sentence(17, "NEAREST of two VERSIONS: ANCESTORS of both that are no ANCESTOR of another such one.", () -> {
            crissCross();
            quiet("nearest(1, 2)", 0b1);
            quiet("nearest(0, 1)", 0b1);
            quiet("nearest(1, 0)", 0b1);
            quiet("nearest(1, 3)", 0b10);
            quiet("nearest(3, 2)", 0b100);
            quiet("nearest(3, 4)", 0b110);
            quiet("nearest(4, 3)", 0b110);
            change(3, 0, "5");
            change(5, 0, "6");
            quiet("nearest(6, 4)", 0b110);
            quiet("nearest(6, 3)", 0b1000);
            quiet("nearest(6, 0)", 0b1);
            change(5, 0, "7");
            quiet("nearest(6, 7)", 0b100000);
        });
        sentence(17, "NEAREST (bits). BAD (the same one, too).", () -> {
            refused("nearest(0, 0)", BAD);
            start("a1");
            refused("nearest(0, 0)", BAD);
            refused("nearest(0, 1)", BAD);
            change(0, 0, "2");
            pairsRefused("nearest", "");
            ladder();
            quiet("nearest(15, 14)", 1 << 14);
            quiet("nearest(13, 14)", 1 << 11 | 1 << 12);
            quiet("nearest(1, 15)", 0b10);
        });
    }

    private static void commonOfOneOrTwo() {
        sentence(18, "Their COMMON is like a VERSION, but need not be one: if there is one NEAREST, that;", () -> {
            crissCross();
            commonIs(1, 2, 0, "0 0 0");
            commonIs(0, 2, 0, "0 0 0");
            commonIs(2, 0, 0, "0 0 0");
            commonIs(3, 1, 0, "0 1 0");
            commonIs(2, 3, 0, "0 2 0");
            change(3, 0, "5");
            change(3, 1, "6");
            commonIs(5, 6, 0, CROSSED);
            commonIs(5, 6, 1, MISSING);
        });
        sentence(18, "else of the NEAREST, by numbers, the first (OURS) and the second (THEIRS) are MERGED over the COMMON "
                + "of these two;", () -> {
            crissCross();
            commonIs(3, 4, 0, CROSSED);
            commonIs(4, 3, 0, CROSSED);
            // 3 is ALIKE what 3 and 4 have in COMMON, so 4 is taken, either way round
            due("merge(4, 3)", 5);
            fileIs(5, 0, "0 10 2 11 0 12 1 13 0");
            due("merge(3, 4)", 6);
            fileIs(6, 0, "0 10 2 11 0 12 1 13 0");
            // the COMMON of the NEAREST never was one, either
            crossOfCrosses();
            quiet("nearest(7, 8)", 0b1100000);
            commonIs(7, 8, 0, "10 4 11 10 2 11 1 12 3 13 12 5 13");
            commonIs(8, 7, 0, "10 4 11 10 2 11 1 12 3 13 12 5 13");
        });
    }

    private static void commonOfMore() {
        sentence(18, "what comes of that (OURS) and the third (THEIRS) over the COMMON of the second and the third;", () -> {
            start("a1");
            change(0, 0, "2");
            change(0, 0, "3");
            change(1, 0, "4");
            change(1, 0, "5");
            merge(2, 3);
            merge(5, 4);
            merge(3, 2);
            merge(4, 7);
            quiet("nearest(6, 8)", 0b11100);
            quiet("nearest(2, 3)", 0b1);
            quiet("nearest(3, 4)", 0b10);
            commonIs(6, 8, 0, "10 10 3 11 1 12 4 13 11 2 12 5 13");
            commonIs(8, 6, 0, "10 10 3 11 1 12 4 13 11 2 12 5 13");
            // the COMMON of the second and the third never was one, either
            start("a1");
            change(0, 0, "2");
            change(0, 0, "3");
            merge(1, 2);
            merge(2, 1);
            change(0, 1, "7");
            change(3, 0, "4");
            change(4, 0, "5");
            merge(5, 6);
            merge(8, 7);
            merge(6, 5);
            merge(7, 10);
            quiet("nearest(9, 11)", 0b11100000);
            quiet("nearest(6, 7)", 0b110);
            commonIs(9, 11, 0, "10 4 11 10 2 11 1 12 3 13 12 5 13");
            commonIs(9, 11, 1, "7");
        });
        sentence(18, "and so on, each next one over the COMMON of it and the one ahead of it.", () -> {
            start("a1 b1");
            change(0, 1, "2");
            change(0, 0, "5");
            change(0, 2, "7");
            change(1, 1, "3");
            change(1, 2, "8");
            merge(2, 3);
            merge(4, 5);
            merge(6, 7);
            merge(3, 2);
            merge(5, 4);
            merge(10, 9);
            quiet("nearest(8, 11)", 0b111100);
            quiet("nearest(4, 5)", 0b10);
            quiet("nearest(3, 4)", 0b1);
            commonIs(8, 11, 0, "5");
            commonIs(8, 11, 1, "3");
            commonIs(8, 11, 2, "10 7 11 12 8 13");
        });
    }

    private static void common() {
        sentence(18, "A FILE of the COMMON of two VERSIONS WRITTEN OUT to a ROW (anew): how many numbers.", () -> {
            crissCross();
            fill(0, 9, 9, 9, 9, 9, 9, 9, 9, 9, 9);
            due("common(3, 4, 0, 0)", 9);
            rowIs(0, CROSSED);
            due("common(1, 2, 0, 5)", 3);
            rowIs(5, "0 0 0");
            due("count(0)", 5);
            start("a1b");
            change(0, 0, "2");
            fill(3, 7);
            due("common(0, 1, 1, 3)", 0);
            rowIs(3, "");
        });
        sentence(18, "NONE: it is missing. BAD (the same one, too);", () -> {
            start("a1");
            change(0, 1, "2");
            change(0, 0, "3");
            fill(0, 7, 8);
            quiet("common(1, 2, 1, 0)", NONE);
            quiet("common(1, 2, 2, 4)", NONE);
            rowIs(0, "7 8");
            rowIs(4, MISSING);
            pairsRefused("common", ", 0, 0");
            for (int bad : new int[] {-1, 3, LOWEST, HIGHEST}) {
                refused("common(1, 2, " + bad + ", 0)", BAD);
            }
            for (int bad : new int[] {-1, 6, LOWEST, HIGHEST}) {
                refused("common(1, 2, 0, " + bad + ")", BAD);
                refused("common(1, 2, 1, " + bad + ")", BAD);
            }
            // two NEAREST that both dropped it
            start("a1");
            due("drop(0, 0)", 1);
            due("drop(0, 0)", 2);
            merge(1, 2);
            merge(2, 1);
            quiet("nearest(3, 4)", 0b110);
            quiet("common(3, 4, 0, 0)", NONE);
        });
    }

    private static void commonSpent() {
        sentence(18, "SPENT: a FILE would be more than 40.", () -> {
            longCommon("333");
            due("common(9, 12, 0, 0)", 40);
            rowIs(0, "10 10 1 1 1 1 1 1 1 1 11 0 12 2 2 2 2 2 2 2 2 13 11 0 12 10 4 4 4 4 4 4 11 0 12 3 3 3 13 13");
            longCommon("3333");
            fill(0, 7);
            for (int f = 0; f <= 2; f++) {
                refused("common(9, 12, " + f + ", 0)", SPENT);
                refused("common(12, 9, " + f + ", 0)", SPENT);
            }
            rowIs(0, "7");
            refused("common(9, 12, 3, 0)", BAD);
            refused("common(9, 12, 0, 6)", BAD);
            due("common(3, 6, 0, 0)", 1);
        });
        sentence(18, "A FILE may be 40 numbers WRITTEN OUT at most (in a COMMON, too).", () -> {
            longCommon("3333");
            due("drop(9, 0)", 13);
            due("drop(12, 0)", 14);
            // what would come of it is small, but what it comes over is not
            refused("merge(13, 14)", SPENT);
            refused("would(13, 14)", SPENT);
            refused("mirrored(13, 14)", SPENT);
            longCommon("333");
            due("drop(9, 0)", 13);
            due("drop(12, 0)", 14);
            due("merge(13, 14)", 15);
            fileIs(15, 0, MISSING);
        });
    }

    private static void would() {
        sentence(19, "Were a (OURS) and b (THEIRS) MERGED (nothing is): CONFLICTS of all FILES (not those in others); TORN "
                + "FILES (bits) by asked().", () -> {
            start("a123b1c1");
            change(0, 0, "426");
            change(1, 1, "4");
            change(0, 0, "527");
            change(3, 1, "5");
            wouldBe(2, 4, 3, 0);
            wouldBe(4, 2, 3, 0);
            due("merge(2, 4)", 5);
            change(0, 1, "6");
            wouldBe(5, 6, 3, 0);
            due("drop(2, 2)", 7);
            change(4, 2, "");
            wouldBe(7, 8, 3, 4);
            wouldBe(8, 7, 3, 4);
            due("drop(0, 1)", 9);
            due("drop(0, 0)", 10);
            wouldBe(9, 10, 0, 0);
            wouldBe(9, 2, 0, 2);
            due("drop(9, 0)", 11);
            wouldBe(11, 2, 0, 3);
            wouldBe(11, 5, 3, 3);
            fillUp();
            wouldBe(2, 4, 3, 0);
        });
        sentence(19, "It is TORN also if it is so in OURS or THEIRS, but is not missing.", () -> {
            tornOne();
            change(3, 1, "5");
            change(3, 2, "6");
            wouldBe(4, 5, 0, 1);
            due("settle(3, 0, 0)", 6);
            wouldBe(4, 6, 0, 1);
            wouldBe(6, 4, 0, 1);
            change(6, 1, "7");
            wouldBe(6, 5, 0, 1);
            due("drop(3, 0)", 8);
            wouldBe(8, 4, 0, 0);
            wouldBe(4, 8, 0, 0);
            change(3, 0, "12345");
            wouldBe(9, 4, 0, 1);
            wouldBe(9, 8, 0, 1);
            wouldBe(9, 6, 0, 0);
        });
    }

    private static void wouldBe(int a, int b, long conflicts, long torn) {
        long versions = ask("count(0)");
        due("would(" + a + ", " + b + ")", conflicts);
        due("asked()", torn);
        due("count(0)", versions);
    }

    private static void wouldRefused() {
        sentence(19, "BAD (the same one, too); STATE: one is an ANCESTOR of the other one; SPENT.", () -> {
            tornOne();
            due("would(2, 1)", 0);
            due("asked()", 1);
            pairsRefused("would", "");
            ancestorsRefused("would");
            longCommon("3333");
            refused("would(9, 12)", SPENT);
            refused("would(12, 9)", SPENT);
            refused("would(3, 6)", SPENT);
            longCommon("333");
            due("would(3, 6)", 1);
            // over a COMMON of 40 numbers nothing but it, or one side, fits
            refused("would(9, 12)", SPENT);
        });
    }

    /** In tornOne(): 0 is an ANCESTOR of all, 3 comes from 1 and 2. */
    private static void ancestorsRefused(String call) {
        for (String pair : new String[] {"0, 1", "1, 0", "0, 3", "3, 0", "1, 3", "3, 1", "2, 3", "3, 2"}) {
            refused(call + "(" + pair + ")", STATE);
        }
    }

    private static void mirrored() {
        sentence(20, "Whether b and a MERGED would come to the same as a and b MERGED, but OURS and THEIRS of those CONFLICTS "
                + "that come by it (none that was there ahead of it) put the other way round: 1, 0.", () -> {
            crissCross();
            quiet("mirrored(1, 2)", 1);
            quiet("mirrored(2, 1)", 1);
            quiet("mirrored(3, 4)", 1);
            change(0, 0, "030");
            quiet("mirrored(3, 5)", 1);
            quiet("mirrored(5, 3)", 1);
            change(3, 1, "5");
            change(4, 1, "6");
            quiet("mirrored(6, 7)", 1);
            due("drop(0, 0)", 8);
            quiet("mirrored(8, 5)", 1);
            quiet("mirrored(5, 8)", 1);
            quiet("mirrored(8, 3)", 1);
            fillUp();
            quiet("mirrored(1, 2)", 1);
        });
    }

    private static void mirroredRefused() {
        sentence(20, "BAD (the same one, too); STATE: one is an ANCESTOR of the other one; SPENT.", () -> {
            tornOne();
            pairsRefused("mirrored", "");
            ancestorsRefused("mirrored");
            longCommon("3333");
            refused("mirrored(9, 12)", SPENT);
            refused("mirrored(12, 9)", SPENT);
            refused("mirrored(3, 6)", SPENT);
            refused("mirrored(6, 3)", SPENT);
            longCommon("333");
            quiet("mirrored(3, 6)", 1);
        });
    }
}
