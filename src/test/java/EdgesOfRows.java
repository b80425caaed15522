import java.util.List;

/** Promises 1 to 9: a new object, ROWS, the signs of TEXTS. */
final class EdgesOfRows extends Edges {
    private static final String FORTY_NOUGHTS = "0" + " 0".repeat(39);
    private static final int[] NO_ROWS = {-1, 6, LOWEST, HIGHEST};
    private static final int[] NO_TEXTS = {-1, 4, LOWEST, HIGHEST};

    static void all() {
        newObject();
        row();
        lay();
        at();
        tear();
        copy();
        copyRefused();
        mean();
        text();
        put();
    }

    private static void newObject() {
        sentence(1, "No ROWS, TEXTS, VERSIONS.", () -> {
            for (int what = 0; what <= 10; what++) {
                quiet("count(" + what + ")", 0);
            }
            for (int r = 0; r <= 5; r++) {
                found("tear(" + r + ")", NOTHING);
            }
            for (int t = 0; t <= 3; t++) {
                found("fault(" + t + ")", NOTHING);
            }
        });
        sentence(1, "VERSIONS 0 .. (16 at most; none at first)", () -> {
            for (String call : List.of("version(0, 0)", "mark(0, 1)", "file(0, 0, 0)", "lines(0, 0)", "ancestors(0)",
                    "nearest(0, 1)", "common(0, 1, 0, 0)", "would(0, 1)", "mirrored(0, 1)", "change(0, 0, 0)",
                    "drop(0, 0)", "settle(0, 0, 0)", "merge(0, 1)", "undo(1)", "undo(0)", "unlike(0)", "shared(0, 0)",
                    "often(0, 0, 0)", "from(0, 0, 0)", "apart(0, 0)", "ways(0)", "odds(0, 0)")) {
                refused(call, BAD);
            }
            start("a1");
            fillUp();
            quiet("count(0)", 16);
            quiet("lines(15, 2)", 0);
            refused("lines(16, 2)", BAD);
            refused("change(0, 0, 5)", FULL);
        });
        sentence(1, "ROWS 0 .. 5 are rows of 0 to 40 ints, TEXTS 0 .. 3 rows of 0 to 60 bytes, or missing (at first).",
                () -> {
            for (int r = 0; r <= 5; r++) {
                rowIs(r, MISSING);
            }
            for (int t = 0; t <= 3; t++) {
                textIs(t, MISSING);
            }
            quiet("digest()", digestByCalls());
        });
    }

    private static void row() {
        sentence(2, "A ROW is there with n ints 0: n.", () -> {
            for (int r = 0; r <= 5; r++) {
                due("row(" + r + ", " + 8 * r + ")", 8 * r);
            }
            rowIs(0, "");
            rowIs(1, FORTY_NOUGHTS.substring(0, 15));
            rowIs(5, FORTY_NOUGHTS);
            due("count(8)", 6);
            due("lay(5, 0, 7)", 1);
            due("lay(5, 39, 7)", 1);
            due("row(5, 1)", 1);
            rowIs(5, "0");
            due("row(5, 40)", 40);
            rowIs(5, FORTY_NOUGHTS);
            due("row(5, 0)", 0);
            rowIs(5, "");
            due("count(8)", 6);
        });
        sentence(2, "BAD: also n above 40; SIZE: below 0.", () -> {
            fill(0, 7, 8);
            for (int n : new int[] {41, HIGHEST}) {
                refused("row(0, " + n + ")", BAD);
                refused("row(1, " + n + ")", BAD);
            }
            for (int n : new int[] {-1, LOWEST}) {
                found("row(0, " + n + ")", SIZE);
                found("row(1, " + n + ")", SIZE);
            }
            for (int r : NO_ROWS) {
                refused("row(" + r + ", 1)", BAD);
                refused("row(" + r + ", -1)", BAD);
                refused("row(" + r + ", 41)", BAD);
            }
            rowIs(0, "7 8");
            rowIs(1, MISSING);
        });
    }

    private static void lay() {
        sentence(3, "Place i of a ROW is v: what it was, told by asked(): 1.", () -> {
            due("row(2, 40)", 40);
            due("lay(2, 0, " + HIGHEST + ")", 1);
            due("asked()", 0);
            due("lay(2, 39, " + LOWEST + ")", 1);
            due("asked()", 0);
            due("lay(2, 0, -1)", 1);
            due("asked()", HIGHEST);
            due("lay(2, 39, 5)", 1);
            due("asked()", LOWEST);
            rowIs(2, "-1" + " 0".repeat(38) + " 5");
            due("row(0, 1)", 1);
            due("lay(0, 0, 9)", 1);
            rowIs(0, "9");
            rowIs(2, "-1" + " 0".repeat(38) + " 5");
        });
        sentence(3, "BAD; NOTHING; BEYOND.", () -> {
            fill(0, 4, 5);
            due("row(1, 40)", 40);
            due("row(2, 0)", 0);
            for (int i : new int[] {-1, 2, LOWEST, HIGHEST}) {
                found("lay(0, " + i + ", 7)", BEYOND);
            }
            found("lay(1, 40, 7)", BEYOND);
            found("lay(2, 0, 7)", BEYOND);
            found("lay(3, 0, 7)", NOTHING);
            found("lay(3, -1, 7)", NOTHING);
            for (int r : NO_ROWS) {
                refused("lay(" + r + ", 0, 7)", BAD);
                refused("lay(" + r + ", -1, 7)", BAD);
            }
            rowIs(0, "4 5");
        });
    }

    private static void at() {
        sentence(4, "Place i of a ROW, told by asked(): 1.", () -> {
            due("row(1, 40)", 40);
            due("lay(1, 0, " + LOWEST + ")", 1);
            due("lay(1, 39, " + HIGHEST + ")", 1);
            told("at(1, 0)", LOWEST);
            told("at(1, 1)", 0);
            told("at(1, 39)", HIGHEST);
        });
        sentence(4, "BAD; NOTHING; BEYOND.", () -> {
            fill(0, 4, 5);
            due("row(1, 40)", 40);
            due("row(2, 0)", 0);
            told("at(0, 1)", 5);
            for (int i : new int[] {-1, 2, LOWEST, HIGHEST}) {
                found("at(0, " + i + ")", BEYOND);
            }
            found("at(1, 40)", BEYOND);
            found("at(2, 0)", BEYOND);
            found("at(3, 0)", NOTHING);
            found("at(3, -1)", NOTHING);
            for (int r : NO_ROWS) {
                refused("at(" + r + ", 0)", BAD);
                refused("at(" + r + ", -1)", BAD);
            }
        });
    }

    private static void tear() {
        sentence(5, "A ROW is missing: 1.", () -> {
            fill(0, 7);
            due("row(5, 0)", 0);
            fill(1, 8);
            due("tear(0)", 1);
            due("tear(5)", 1);
            rowIs(0, MISSING);
            rowIs(5, MISSING);
            rowIs(1, "8");
            due("count(8)", 1);
            due("row(0, 2)", 2);
            rowIs(0, "0 0");
        });
        sentence(5, "BAD; NOTHING.", () -> {
            due("row(0, 1)", 1);
            due("tear(0)", 1);
            found("tear(0)", NOTHING);
            found("tear(3)", NOTHING);
            for (int r : NO_ROWS) {
                refused("tear(" + r + ")", BAD);
            }
        });
    }

    private static void copy() {
        sentence(6, "n places of a ROW, from one on, come to those of another one (perhaps itself) from one on, as if "
                + "taken ahead: 1.", () -> {
            fill(0, 1, 2, 3, 4, 5);
            fill(1, 6, 7, 8);
            due("copy(0, 4, 1, 2, 1)", 1);
            rowIs(1, "6 7 5");
            due("copy(0, 0, 1, 0, 3)", 1);
            rowIs(1, "1 2 3");
            rowIs(0, "1 2 3 4 5");
            due("copy(0, 0, 0, 1, 4)", 1);
            rowIs(0, "1 1 2 3 4");
            due("copy(0, 1, 0, 0, 4)", 1);
            rowIs(0, "1 2 3 4 4");
            quiet("copy(0, 0, 0, 0, 5)", 1);
            due("row(2, 40)", 40);
            due("lay(2, 0, 9)", 1);
            due("copy(2, 0, 2, 1, 39)", 1);
            rowIs(2, "9 9" + " 0".repeat(38));
            due("row(3, 40)", 40);
            due("copy(2, 0, 3, 0, 40)", 1);
            rowIs(3, "9 9" + " 0".repeat(38));
        });
        sentence(6, "BEYOND: not so many there (with n 0, too, if i or j is below 0 or above the size).", () -> {
            fill(0, 1, 2, 3);
            fill(1, 4, 5);
            due("row(2, 0)", 0);
            for (String none : List.of("0, 0, 1, 0", "0, 3, 1, 2", "2, 0, 2, 0", "0, 3, 0, 3", "2, 0, 0, 3")) {
                quiet("copy(" + none + ", 0)", 1);
            }
            for (int i : new int[] {-1, 4, LOWEST, HIGHEST}) {
                found("copy(0, " + i + ", 1, 0, 0)", BEYOND);
            }
            for (int j : new int[] {-1, 3, LOWEST, HIGHEST}) {
                found("copy(0, 0, 1, " + j + ", 0)", BEYOND);
            }
            found("copy(2, 1, 0, 0, 0)", BEYOND);
            found("copy(0, 0, 2, 1, 0)", BEYOND);
        });
    }

    private static void copyRefused() {
        sentence(6, "BAD; SIZE: n below 0; NOTHING: either; BEYOND: not so many there", () -> {
            fill(0, 1, 2, 3);
            fill(1, 4, 5);
            found("copy(0, 0, 1, 0, 3)", BEYOND);
            found("copy(1, 0, 0, 0, 3)", BEYOND);
            found("copy(0, 2, 1, 0, 2)", BEYOND);
            found("copy(0, 0, 1, 1, 2)", BEYOND);
            found("copy(0, 1, 0, 0, 3)", BEYOND);
            found("copy(0, 0, 0, 1, 3)", BEYOND);
            found("copy(0, 3, 1, 0, 1)", BEYOND);
            found("copy(0, -1, 1, 0, 1)", BEYOND);
            found("copy(0, 0, 1, -1, 1)", BEYOND);
            // i and n, j and n together wrap around
            found("copy(0, 1, 1, 0, " + HIGHEST + ")", BEYOND);
            found("copy(0, 0, 1, 1, " + HIGHEST + ")", BEYOND);
            found("copy(0, " + HIGHEST + ", 1, 0, 1)", BEYOND);
            found("copy(0, 0, 1, " + HIGHEST + ", 1)", BEYOND);
            found("copy(0, " + HIGHEST + ", 1, " + HIGHEST + ", " + HIGHEST + ")", BEYOND);
            found("copy(0, " + LOWEST + ", 1, " + LOWEST + ", " + HIGHEST + ")", BEYOND);
            found("copy(0, 0, 1, 0, -1)", SIZE);
            found("copy(0, 0, 1, 0, " + LOWEST + ")", SIZE);
            found("copy(5, 0, 1, 0, 0)", NOTHING);
            found("copy(0, 0, 5, 0, 0)", NOTHING);
            found("copy(5, 0, 5, 0, 0)", NOTHING);
            rowIs(0, "1 2 3");
            rowIs(1, "4 5");
        });
        sentence(6, "(In this order.)", () -> {
            fill(0, 1, 2, 3);
            for (int r : NO_ROWS) {
                refused("copy(" + r + ", 9, 5, 9, -1)", BAD);
                refused("copy(5, 9, " + r + ", 9, -1)", BAD);
            }
            found("copy(5, 9, 0, 0, -1)", SIZE);
            found("copy(0, 0, 5, 9, -1)", SIZE);
            found("copy(0, 9, 0, 9, -1)", SIZE);
            found("copy(5, 9, 0, 9, 1)", NOTHING);
            found("copy(0, 9, 5, 9, 1)", NOTHING);
            found("copy(0, 9, 0, 0, 1)", BEYOND);
        });
    }

    private static void mean() {
        sentence(7, "The mean of a ROW's ints, cut, told by asked(): 1.", () -> {
            fill(0, 1, 2, 4);
            told("mean(0)", 2);
            fill(0, -1, -2, -4);
            told("mean(0)", -2);
            fill(0, 0, -1);
            told("mean(0)", 0);
            fill(0, 1, -2, 0);
            told("mean(0)", 0);
            fill(0, HIGHEST);
            told("mean(0)", HIGHEST);
            fill(0, LOWEST);
            told("mean(0)", LOWEST);
            // the sum of forty ints is more than an int holds
            for (int v : new int[] {HIGHEST, LOWEST}) {
                due("row(1, 40)", 40);
                due("lay(1, 0, " + v + ")", 1);
                for (int n = 1; n < 40; n *= 2) {
                    due("copy(1, 0, 1, " + n + ", " + Math.min(n, 40 - n) + ")", 1);
                }
                told("mean(1)", v);
            }
            fill(2, LOWEST, HIGHEST);
            told("mean(2)", 0);
        });
        sentence(7, "BAD; NOTHING; NOUGHT.", () -> {
            fill(0, 6);
            told("mean(0)", 6);
            due("row(0, 0)", 0);
            found("mean(0)", NOUGHT);
            found("mean(1)", NOTHING);
            for (int r : NO_ROWS) {
                refused("mean(" + r + ")", BAD);
            }
        });
    }

    private static void text() {
        sentence(8, "A TEXT is there with n blanks: n.", () -> {
            for (int t = 0; t <= 3; t++) {
                due("text(" + t + ", " + 20 * t + ")", 20 * t);
            }
            textIs(0, "");
            textIs(1, "32" + " 32".repeat(19));
            textIs(3, "32" + " 32".repeat(59));
            due("count(9)", 4);
            due("put(3, 0, 97)", 1032);
            due("put(3, 59, 97)", 1032);
            due("text(3, 1)", 1);
            textIs(3, "32");
            due("text(3, 60)", 60);
            textIs(3, "32" + " 32".repeat(59));
            due("text(3, 0)", 0);
            due("count(9)", 4);
        });
        sentence(8, "BAD: also n above 60; SIZE: below 0.", () -> {
            write(0, "b1");
            for (int n : new int[] {61, HIGHEST}) {
                refused("text(0, " + n + ")", BAD);
                refused("text(1, " + n + ")", BAD);
            }
            for (int n : new int[] {-1, LOWEST}) {
                found("text(0, " + n + ")", SIZE);
                found("text(1, " + n + ")", SIZE);
            }
            for (int t : NO_TEXTS) {
                refused("text(" + t + ", 1)", BAD);
                refused("text(" + t + ", -1)", BAD);
                refused("text(" + t + ", 61)", BAD);
            }
            textIs(0, "98 49");
            textIs(1, MISSING);
        });
    }

    private static void put() {
        sentence(9, "Byte i of a TEXT is v, cut to a byte (-128 .. 127): what it was, and 1000 more.", () -> {
            due("text(1, 60)", 60);
            int[] values = {127, 128, 255, 256, -1, -128, -129, HIGHEST, LOWEST, 97 + 256, -256};
            int[] bytes = {127, -128, -1, 0, -1, -128, 127, -1, 0, 97, 0};
            int was = 32;
            for (int i = 0; i < values.length; i++) {
                due("put(1, 59, " + values[i] + ")", was + 1000);
                was = bytes[i];
            }
            due("put(1, 0, 0)", 1032);
            textIs(1, "0" + " 32".repeat(58) + " 0");
            due("asked()", 0);
        });
        sentence(9, "BAD; NOTHING; BEYOND.", () -> {
            due("text(0, 2)", 2);
            due("text(1, 60)", 60);
            due("text(2, 0)", 0);
            for (int i : new int[] {-1, 2, LOWEST, HIGHEST}) {
                found("put(0, " + i + ", 97)", BEYOND);
            }
            found("put(1, 60, 97)", BEYOND);
            found("put(2, 0, 97)", BEYOND);
            found("put(3, 0, 97)", NOTHING);
            found("put(3, -1, 97)", NOTHING);
            for (int t : NO_TEXTS) {
                refused("put(" + t + ", 0, 97)", BAD);
                refused("put(" + t + ", -1, 97)", BAD);
            }
            textIs(0, "32 32");
        });
    }
}
