import java.util.function.LongPredicate;

/** Promises 26 to 28: BOOKS kept and gone on from, DEEDS by LOTS. */
final class EdgesOfKeeping extends Edges {
    private static final int HIGHEST_SEED = 2147483646;

    static void all() {
        keep();
        on();
        lotsRefused();
        lotsInRow();
        lotsChanged();
        lotsOfEdges();
        lotsMerged();
        lotsThatCannotBe();
    }

    private static void keep() {
        sentence(26, "The BOOK (all VERSIONS) is kept in a place (0 .. 2): how many VERSIONS.", () -> {
            start("a1");
            due("keep(0)", 1);
            due("count(10)", 1);
            change(0, 0, "2");
            due("keep(2)", 2);
            fillUp();
            due("keep(1)", 16);
            due("count(10)", 3);
            due("keep(0)", 16);
            due("count(10)", 3);
            due("count(0)", 16);
            due("undo(1)", 15);
            due("on(2)", 2);
            fileIs(1, 0, "2");
            due("on(0)", 16);
            due("undo(3)", 13);
            due("keep(1)", 3);
            due("on(1)", 3);
        });
        sentence(26, "BAD; STATE: no VERSIONS.", () -> {
            for (int bad : new int[] {-1, 3, LOWEST, HIGHEST}) {
                refused("keep(" + bad + ")", BAD);
            }
            for (int k = 0; k <= 2; k++) {
                refused("keep(" + k + ")", STATE);
            }
            start("a1");
            due("keep(1)", 1);
            for (int bad : new int[] {-1, 3, LOWEST, HIGHEST}) {
                refused("keep(" + bad + ")", BAD);
            }
        });
    }

    private static void on() {
        sentence(27, "The BOOK is as it was kept: how many VERSIONS.", () -> {
            tornOne();
            due("keep(2)", 4);
            quiet("on(2)", 4);
            due("undo(1)", 3);
            change(0, 0, "8");
            change(0, 0, "9");
            due("merge(2, 1)", 3);
            fillUp();
            due("keep(0)", 16);
            deed("on(2)", 4);
            fileIs(3, 0, "1 2 3 4");
            traitIs(3, 4, 1);
            traitIs(3, 1, 1);
            traitIs(3, 2, 2);
            quiet("ancestors(3)", 0b1111);
            quiet("nearest(1, 2)", 1);
            change(3, 1, "5");
            due("drop(2, 0)", 5);
            deed("on(2)", 4);
            due("count(0)", 4);
            deed("on(0)", 16);
            fileIs(3, 0, "10 9 11 1 2 3 12 8 13");
            traitIs(3, 1, 2);
            refused("drop(0, 0)", FULL);
            // ANCESTORS, too, are as they were
            due("undo(1)", 15);
            change(0, 0, "7");
            change(1, 0, "8");
            quiet("ancestors(2)", 0b111);
            deed("on(2)", 4);
            quiet("ancestors(2)", 0b101);
            deed("merge(2, 1)", 4);
        });
        sentence(27, "BAD; NOTHING.", () -> {
            for (int k = 0; k <= 2; k++) {
                found("on(" + k + ")", NOTHING);
            }
            start("a1");
            change(0, 0, "2");
            due("keep(1)", 2);
            found("on(0)", NOTHING);
            found("on(2)", NOTHING);
            for (int bad : new int[] {-1, 3, LOWEST, HIGHEST}) {
                refused("on(" + bad + ")", BAD);
            }
            due("book(0)", 1);
            found("on(1)", NOTHING);
        });
    }

    private static void lotsRefused() {
        sentence(28, "BAD; STATE: no VERSIONS.", () -> {
            refused("lots(1, 1)", STATE);
            refused("lots(10, " + HIGHEST_SEED + ")", STATE);
            refusedLots();
            start("a1");
            refusedLots();
            fillUp();
            refusedLots();
        });
        sentence(28, "the first from a seed (1 .. 2147483646).", () -> {
            start("a12");
            // 48271: by 4 a rest of 3, FILE 1, 47 by 10 a rest of 7
            deed("lots(1, 1)", 2);
            fileIs(1, 1, "7");
            traitIs(1, 1, 0);
            // 2147435376: by 4 no rest, VERSION 0 with itself
            start("a12");
            quiet("lots(1, " + HIGHEST_SEED + ")", 1);
            refused("lots(1, " + HIGHEST + ")", BAD);
            refused("lots(1, 0)", BAD);
        });
    }

    private static void refusedLots() {
        for (int n : new int[] {0, 11, -1, LOWEST, HIGHEST}) {
            refused("lots(" + n + ", 1)", BAD);
        }
        for (int seed : new int[] {0, -1, HIGHEST, LOWEST}) {
            refused("lots(1, " + seed + ")", BAD);
        }
    }

    private static void lotsInRow() {
        sentence(28, "LOTS: a number comes from the one ahead by 48271 times it modulo 2147483647", () -> {
            start("a12");
            // behind 48271 comes 182605794: by 4 a rest of 2, VERSION 1, FILE 1, a 5 at place 1
            deed("lots(2, 1)", 3);
            fileIs(1, 1, "7");
            fileIs(2, 1, "7 5");
            traitIs(2, 1, 1);
            start("a12");
            deed("lots(1, 1)", 2);
            deed("lots(1, 48271)", 3);
            fileIs(2, 1, "7 5");
        });
        sentence(28, "n (1 .. 10) times by LOTS of a seed", () -> {
            for (int seed : new int[] {1, 77, 123456789, HIGHEST_SEED}) {
                long at = seed;
                start("a12 b3");
                long versions = 1;
                for (int i = 0; i < 10; i++) {
                    versions = ask("lots(1, " + at + ")");
                    at = at * 48271 % 2147483647;
                }
                long digest = ask("digest()");
                start("a12 b3");
                deed("lots(10, " + seed + ")", versions);
                quiet("digest()", digest);
            }
        });
    }

    /** Does what a LOT tells that fits, of those from a number on. */
    private static void byLot(long from, LongPredicate wanted, long versions) {
        deed("lots(1, " + seedFor(from, wanted) + ")", versions);
    }

    private static void lotsChanged() {
        sentence(28, "a number; VERSION p: it by 64, cut, modulo how many there are, FILE f: it by 4, cut, modulo 3;", () -> {
            for (int p = 0; p <= 2; p++) {
                for (int f = 0; f <= 2; f++) {
                    int version = p;
                    int file = f;
                    start("a1 b2 c3");
                    change(0, 0, "4");
                    change(0, 1, "5");
                    byLot(2000000000, it -> it % 4 == 1 && it / 64 % 3 == version && it / 4 % 3 == file, 4);
                    traitIs(3, 1, p);
                    quiet("lines(3, " + f + ")", 2);
                    quiet("apart(3, " + p + ")", 1);
                }
            }
        });
        sentence(28, "a figure (it by 1024, cut, modulo 10) more at place (it by 16384, cut, modulo as many as it has LINES "
                + "and 1);", () -> {
            start("a123");
            byLot(16384, it -> it % 4 != 0 && it / 4 % 3 == 0 && it / 1024 % 10 == 0 && it / 16384 % 4 == 3, 2);
            fileIs(1, 0, "1 2 3 0");
            byLot(16384, it -> it % 4 != 0 && it / 4 % 3 == 0 && it / 64 % 2 == 1 && it / 1024 % 10 == 9
                    && it / 16384 % 5 == 0, 3);
            fileIs(2, 0, "9 1 2 3 0");
            byLot(2000000000, it -> it % 4 != 0 && it / 4 % 3 == 0 && it / 64 % 3 == 2 && it / 1024 % 10 == 5
                    && it / 16384 % 6 == 2, 4);
            fileIs(3, 0, "9 1 5 2 3 0");
            byLot(1, it -> it % 4 != 0 && it / 4 % 3 == 2 && it / 64 % 4 == 3 && it / 1024 % 10 == 8
                    && it / 16384 == 7, 5);
            fileIs(4, 2, "8");
            fileIs(4, 0, "9 1 5 2 3 0");
        });
    }

    private static void lotsOfEdges() {
        sentence(28, "if it modulo 4 is not 0, and f has at p no CONFLICT (a missing one has none) and fewer than 8 LINES, it "
                + "is CHANGED:", () -> {
            for (int rest = 1; rest <= 3; rest++) {
                int by4 = rest;
                start("a1");
                byLot(1, it -> it % 4 == by4 && it / 4 % 3 == 0, 2);
                byLot(1, it -> it % 4 == by4 && it / 4 % 3 == 1 && it / 64 % 2 == 0, 3);
                quiet("lines(2, 1)", 1);
            }
            start("a1234567 b12345678");
            change(0, 2, "");
            byLot(1, it -> it % 4 != 0 && it / 4 % 3 == 0 && it / 64 % 2 == 0, 3);
            quiet("lines(2, 0)", 8);
            // eight LINES: 2 and 1 are MERGED
            byLot(1, it -> it % 4 != 0 && it / 4 % 3 == 0 && it / 64 % 3 == 2 && it / 4096 % 3 == 1, 4);
            traitIs(3, 0, 3);
            traitIs(3, 1, 2);
            traitIs(3, 2, 1);
            // a CONFLICT: 3 and 5 are MERGED
            crissCross();
            change(0, 1, "5");
            byLot(1, it -> it % 4 != 0 && it / 4 % 3 == 0 && it / 64 % 6 == 3 && it / 4096 % 6 == 5, 7);
            traitIs(6, 1, 3);
            traitIs(6, 2, 5);
            // another FILE of that VERSION has none
            byLot(1, it -> it % 4 != 0 && it / 4 % 3 == 1 && it / 64 % 7 == 3, 8);
            traitIs(7, 0, 2);
            quiet("lines(7, 1)", 1);
            // of a TORN one it is TORN no more
            tornOne();
            byLot(1, it -> it % 4 != 0 && it / 4 % 3 == 0 && it / 64 % 4 == 3, 5);
            traitIs(4, 4, 0);
            byLot(1, it -> it % 4 != 0 && it / 4 % 3 == 1 && it / 64 % 5 == 3, 6);
            traitIs(5, 4, 1);
        });
    }

    private static void lotsMerged() {
        sentence(28, "else p and the VERSION that it by 4096, cut, modulo how many there are tells are MERGED, if they can be.",
                () -> {
            start("a1");
            change(0, 0, "2");
            change(0, 0, "3");
            byLot(4096, it -> it % 4 == 0 && it / 64 % 3 == 2 && it / 4096 % 3 == 1, 4);
            traitIs(3, 1, 2);
            traitIs(3, 2, 1);
            fileIs(3, 0, "10 3 11 1 12 2 13");
            byLot(2000000000, it -> it % 4 == 0 && it / 64 % 4 == 1 && it / 4096 % 4 == 2 && it / 4097 % 4 != 2
                    && it / 4095 % 4 != 2, 5);
            fileIs(4, 0, "10 2 11 1 12 3 13");
            byLot(1, it -> it % 4 == 0 && it / 64 % 5 == 3 && it / 4096 % 5 == 4, 6);
            traitIs(5, 0, 4);
        });
    }

    private static void lotsThatCannotBe() {
        sentence(28, "What can't be (with 16 VERSIONS, too) is not: how many VERSIONS then.", () -> {
            crissCross();
            // with itself, an ANCESTOR with one that comes from it, and the other way round
            quiet("lots(1, " + seedFor(1, it -> it % 4 == 0 && it / 64 % 5 == 2 && it / 4096 % 5 == 2) + ")", 5);
            quiet("lots(1, " + seedFor(1, it -> it % 4 == 0 && it / 64 % 5 == 1 && it / 4096 % 5 == 3) + ")", 5);
            quiet("lots(1, " + seedFor(1, it -> it % 4 == 0 && it / 64 % 5 == 4 && it / 4096 % 5 == 0) + ")", 5);
            // a FILE would be more than 40
            longCommon("3333");
            quiet("lots(1, " + seedFor(1, it -> it % 4 == 0 && it / 64 % 13 == 3 && it / 4096 % 13 == 6) + ")", 13);
            quiet("lots(1, " + seedFor(1, it -> it % 4 == 0 && it / 64 % 13 == 9 && it / 4096 % 13 == 12) + ")", 13);
            longCommon("333");
            byLot(1, it -> it % 4 == 0 && it / 64 % 13 == 3 && it / 4096 % 13 == 6, 14);
            // 16 VERSIONS
            start("a1");
            change(0, 0, "2");
            fillUp();
            quiet("lots(10, 1)", 16);
            quiet("lots(1, " + seedFor(1, it -> it % 4 == 1 && it / 4 % 3 == 0 && it / 64 % 16 == 0) + ")", 16);
            quiet("lots(1, " + seedFor(1, it -> it % 4 == 0 && it / 64 % 16 == 1 && it / 4096 % 16 == 2) + ")", 16);
            due("undo(15)", 1);
            byLot(1, it -> it % 4 == 0 && it / 64 % 15 == 1 && it / 4096 % 15 == 2, 16);
            due("undo(15)", 1);
            byLot(1, it -> it % 4 == 1 && it / 4 % 3 == 0 && it / 64 % 15 == 14, 16);
            traitIs(15, 1, 14);
        });
    }
}
