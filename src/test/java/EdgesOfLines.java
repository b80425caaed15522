/** Promises 29 to 35: LINES that are ALIKE, how far VERSIONS are APART, WAYS BACK. */
final class EdgesOfLines extends Edges {
    private static final int[] NO_VERSIONS = {-1, 16, LOWEST, HIGHEST};
    private static final int[] NO_FILES = {-1, 3, LOWEST, HIGHEST};

    static void all() {
        unlike();
        shared();
        often();
        from();
        fromRefused();
        apart();
        ways();
        odds();
        oddsRefused();
    }

    private static void oneRefused(String call) {
        refused(call + "(0)", BAD);
        start("a1");
        quiet(call + "(0)", 1);
        refused(call + "(1)", BAD);
        for (int bad : NO_VERSIONS) {
            refused(call + "(" + bad + ")", BAD);
        }
        fillUp();
        quiet(call + "(15)", 1);
        refused(call + "(16)", BAD);
    }

    private static void twoRefused(String call) {
        refused(call + "(0, 0)", BAD);
        start("a1");
        refused(call + "(0, 1)", BAD);
        refused(call + "(1, 0)", BAD);
        for (int bad : NO_VERSIONS) {
            refused(call + "(0, " + bad + ")", BAD);
            refused(call + "(" + bad + ", 0)", BAD);
        }
        fillUp();
        refused(call + "(15, 16)", BAD);
        refused(call + "(16, 15)", BAD);
    }

    private static void lineRefused(String call) {
        refused(call + "(0, 0, 0)", BAD);
        start("a12 c");
        for (int bad : new int[] {-1, 2, LOWEST, HIGHEST}) {
            refused(call + "(0, 0, " + bad + ")", BAD);
        }
        refused(call + "(0, 1, 0)", BAD);
        refused(call + "(0, 1, -1)", BAD);
        refused(call + "(0, 2, 0)", BAD);
        refused(call + "(0, 2, -1)", BAD);
        for (int bad : NO_FILES) {
            refused(call + "(0, " + bad + ", 0)", BAD);
        }
        for (int bad : NO_VERSIONS) {
            refused(call + "(" + bad + ", 0, 0)", BAD);
        }
        refused(call + "(1, 0, 0)", BAD);
        due("drop(0, 0)", 1);
        refused(call + "(1, 0, 0)", BAD);
        crissCross();
        refused(call + "(3, 0, 3)", BAD);
    }

    private static void unlike() {
        sentence(29, "How many unlike LINES all FILES of a VERSION have together.", () -> {
            start("");
            quiet("unlike(0)", 0);
            start("abc");
            quiet("unlike(0)", 0);
            start("a11111111b11111111c11111111");
            quiet("unlike(0)", 1);
            start("a01234567b89012345c");
            quiet("unlike(0)", 10);
            // two CONFLICTS that are ALIKE, and one more that is not
            likeConflicts();
            quiet("unlike(5)", 2);
            due("merge(4, 2)", 6);
            quiet("unlike(6)", 2);
            change(2, 2, "3");
            change(4, 2, "2");
            due("merge(7, 8)", 9);
            quiet("unlike(9)", 2);
            // what stands in a CONFLICT is no LINE of the FILE
            start("a1");
            change(0, 0, "23");
            change(0, 0, "45");
            due("merge(1, 2)", 3);
            quiet("unlike(3)", 1);
        });
        sentence(29, "BAD.", () -> oneRefused("unlike"));
    }

    private static void shared() {
        sentence(30, "How many unlike LINES are in FILES (any) of both VERSIONS.", () -> {
            start("a1122 b3");
            quiet("shared(0, 0)", 3);
            due("drop(0, 0)", 1);
            change(1, 1, "");
            change(2, 2, "21212");
            quiet("shared(0, 2)", 0);
            quiet("shared(2, 2)", 0);
            quiet("shared(0, 3)", 2);
            quiet("shared(3, 0)", 2);
            quiet("shared(1, 3)", 0);
            change(3, 0, "0456789");
            quiet("shared(4, 0)", 2);
            crissCross();
            quiet("shared(3, 4)", 1);
            change(3, 1, "1");
            quiet("shared(3, 5)", 2);
            quiet("shared(1, 3)", 1);
            start("a0123456b7890");
            change(0, 2, "98765432");
            quiet("shared(0, 1)", 10);
        });
        sentence(30, "BAD.", () -> twoRefused("shared"));
    }

    private static void often() {
        sentence(31, "How often a LINE (its place) of a FILE stands in all FILES of its VERSION, told by asked(): 1.", () -> {
            start("a11111111b11111111c11111111");
            told("often(0, 0, 0)", 24);
            told("often(0, 2, 7)", 24);
            start("a1213b1c");
            told("often(0, 0, 0)", 3);
            told("often(0, 0, 1)", 1);
            told("often(0, 0, 2)", 3);
            told("often(0, 0, 3)", 1);
            told("often(0, 1, 0)", 3);
            crissCross();
            told("often(3, 0, 0)", 2);
            told("often(3, 0, 1)", 1);
            told("often(3, 0, 2)", 2);
            likeConflicts();
            told("often(5, 0, 0)", 2);
            told("often(5, 1, 0)", 2);
        });
        sentence(31, "BAD (it is missing, too).", () -> lineRefused("often"));
    }

    private static void from() {
        sentence(32, "The lowest ANCESTOR whose like FILE (of the same number) has a LINE ALIKE: its number.", () -> {
            start("a1 b2");
            quiet("from(0, 0, 0)", 0);
            change(0, 0, "2");
            change(0, 0, "3");
            change(2, 0, "1234");
            // 1: of VERSION 0, though not of 2; 2: 1 is no ANCESTOR, b is another FILE; 3: of its PARENT
            quiet("from(3, 0, 0)", 0);
            quiet("from(3, 0, 1)", 3);
            quiet("from(3, 0, 2)", 2);
            quiet("from(3, 0, 3)", 3);
            quiet("from(1, 0, 0)", 1);
            due("drop(3, 0)", 4);
            change(4, 0, "4");
            quiet("from(5, 0, 0)", 3);
            quiet("from(5, 1, 0)", 0);
            crissCross();
            quiet("from(3, 0, 0)", 0);
            quiet("from(3, 0, 1)", 3);
            quiet("from(4, 0, 1)", 4);
            change(3, 1, "5");
            quiet("from(5, 0, 1)", 3);
            due("merge(5, 4)", 6);
            quiet("from(6, 0, 1)", 4);
            start("a1");
            due("row(0, 1)", 1);
            for (int v = 0; v < 15; v++) {
                due("change(" + v + ", 1, 0)", v + 1);
            }
            quiet("from(15, 0, 0)", 0);
            quiet("from(15, 1, 0)", 1);
        });
    }

    private static void fromRefused() {
        sentence(32, "BAD (it is missing, too).", () -> lineRefused("from"));
    }

    private static void apart() {
        sentence(33, "APART are two VERSIONS by LINES, FILE by FILE (one that is missing has none): LINES of both less twice as "
                + "many as can be matched, all together.", () -> {
            start("a11111111b11111111c11111111");
            change(0, 0, "22222222");
            change(1, 1, "22222222");
            change(2, 2, "22222222");
            quiet("apart(0, 3)", 48);
            quiet("apart(3, 0)", 48);
            quiet("apart(0, 1)", 16);
            quiet("apart(3, 3)", 0);
            due("drop(0, 0)", 4);
            due("drop(4, 1)", 5);
            due("drop(5, 2)", 6);
            quiet("apart(6, 0)", 24);
            quiet("apart(6, 6)", 0);
            change(6, 0, "");
            quiet("apart(6, 7)", 0);
            start("a12345678");
            change(0, 0, "87654321");
            change(0, 0, "81234567");
            change(0, 1, "12345678");
            quiet("apart(0, 1)", 14);
            quiet("apart(0, 2)", 2);
            quiet("apart(1, 2)", 12);
            quiet("apart(1, 3)", 22);
            due("drop(0, 0)", 4);
            // ALIKE, but of another FILE
            quiet("apart(4, 3)", 16);
            apartByConflicts();
        });
        sentence(33, "How far two VERSIONS are APART. BAD.", () -> {
            twoRefused("apart");
            quiet("apart(0, 15)", 0);
            quiet("apart(15, 15)", 0);
        });
    }

    private static void apartByConflicts() {
        crissCross();
        quiet("apart(3, 0)", 2);
        quiet("apart(3, 4)", 2);
        change(3, 1, "1");
        quiet("apart(3, 5)", 1);
        // more than eight LINES: seven figures ahead of a 5, seven others behind it
        start("a5");
        change(0, 0, "11111115");
        change(0, 0, "52222222");
        due("merge(1, 2)", 3);
        quiet("lines(3, 0)", 15);
        quiet("apart(0, 3)", 14);
        quiet("apart(1, 3)", 7);
        quiet("apart(2, 1)", 14);
    }

    private static void ways() {
        sentence(34, "In how many WAYS BACK (unlike ones by PARENTS) one comes from a VERSION to VERSION 0.", () -> {
            start("a");
            quiet("ways(0)", 1);
            ladder();
            quiet("ways(0)", 1);
            long ways = 1;
            for (int v = 1; v <= 15; v += 2) {
                quiet("ways(" + v + ")", ways);
                if (v < 15) {
                    quiet("ways(" + (v + 1) + ")", ways);
                }
                ways *= 2;
            }
            start("a1");
            change(0, 0, "2");
            change(0, 1, "3");
            change(0, 2, "4");
            due("merge(1, 2)", 4);
            due("merge(4, 3)", 5);
            quiet("ways(5)", 3);
            change(5, 0, "5");
            quiet("ways(6)", 3);
        });
        sentence(34, "BAD.", () -> oneRefused("ways"));
    }

    private static void chance(int v, int by, long upper, long lower) {
        due("odds(" + v + ", " + by + ")", 1);
        due("upper()", upper);
        due("lower()", lower);
    }

    private static void odds() {
        sentence(35, "A WAY BACK goes from a VERSION to one of its PARENTS, each alike, and on, to VERSION 0.", () -> {
            start("a1");
            change(0, 0, "2");
            change(0, 1, "3");
            change(0, 2, "4");
            due("merge(1, 2)", 4);
            due("merge(4, 3)", 5);
            // each PARENT alike, not each WAY
            chance(5, 3, 1, 2);
            chance(5, 4, 1, 2);
            chance(5, 1, 1, 4);
            due("merge(1, 3)", 6);
            due("merge(5, 6)", 7);
            chance(7, 1, 3, 8);
            chance(7, 3, 1, 2);
            chance(7, 2, 1, 8);
            change(7, 0, "9");
            chance(8, 1, 3, 8);
            chance(8, 7, 1, 1);
        });
        sentence(35, "Chances that a WAY BACK from a VERSION comes by another one (itself: 1): 1.", () -> {
            start("a1");
            chance(0, 0, 1, 1);
            change(0, 0, "2");
            chance(1, 1, 1, 1);
            chance(1, 0, 1, 1);
            chance(0, 1, 0, 1);
            change(0, 1, "3");
            chance(2, 1, 0, 1);
            chance(1, 2, 0, 1);
            due("merge(1, 2)", 3);
            for (int v = 3; v < 15; v += 2) {
                due("row(0, 0)", 0);
                due("change(0, 2, 0)", v + 1);
                due("merge(" + v + ", " + (v + 1) + ")", v + 2);
            }
            chance(15, 1, 1, 128);
            chance(15, 2, 1, 128);
            chance(15, 4, 1, 64);
            chance(15, 14, 1, 2);
            chance(15, 0, 1, 1);
            chance(15, 15, 1, 1);
            chance(14, 15, 0, 1);
            chance(14, 13, 0, 1);
            due("odds(13, 1)", 1);
            due("asked()", 0);
        });
    }

    private static void oddsRefused() {
        sentence(35, "BAD.", () -> {
            twoRefused("odds");
            chance(15, 0, 1, 1);
            crissCross();
            chance(3, 1, 1, 2);
            refused("odds(5, 0)", BAD);
            refused("odds(0, 5)", BAD);
            refused("odds(-1, -1)", BAD);
        });
    }
}
