/** The edges of promises 33 to 39, each with the words that name it. */
public final class ShelfEdgesTest {
    private static final int LEAST = Integer.MIN_VALUE;
    private static final int MOST = Integer.MAX_VALUE;
    private static final Check CHECK = new Check("edges of shelves");

    /** By KIND, then FIGURE 0 .. 9. */
    private static final int[][] COST = {
        {5, 5, 5, 5, 5, 5, 5, 5, 5, 5},
        {5, 6, 7, 8, 9, 10, 11, 12, 13, 14},
        {3, 3, 3, 3, 3, 3, 3, 3, 3, 3},
        {10, 10, 10, 10, 10, 10, 10, 10, 10, 10},
        {4, 5, 6, 7, 8, 9, 10, 11, 12, 13},
        {9, 10, 11, 12, 13, 14, 15, 16, 17, 18},
        {3, 4, 5, 6, 7, 8, 9, 10, 11, 12},
        {2, 3, 3, 4, 4, 5, 5, 6, 6, 7},
    };
    private static final int[][] FAILURE = {
        {-15, 1, 2, 3, 4, 5, 6, 7, 8, 9},
        {-15, 101, 102, 103, 104, 105, 106, 107, 108, 109},
        {-15, -15, -15, -15, -15, -15, -15, -15, -15, -15},
        {-15, -15, -15, -15, -15, -15, -15, -15, -15, -15},
        {-15, 101, 102, 103, 104, 105, 106, 107, 108, 109},
        {-15, 101, 102, 103, 104, 105, 106, 107, 108, 109},
        {-15, -15, -15, -15, -15, -15, -15, -15, -15, -15},
        {-15, 203, 203, 204, 204, 205, 205, 206, 206, 207},
    };

    public static void main(String[] args) {
        costAndFailure();
        eightShelves();
        keepNothing();
        keepRefused();
        rowSizes();
        rowRefused();
        lowestBits();
        putPlaces();
        elementThrows();
        copyPlaces();
        copyWithinOneRow();
        copyRefused();
        CHECK.end();
    }

    private static void about(String words) {
        CHECK.about(words);
    }

    private static void due(String call, long got, long want) {
        CHECK.due(call, got, want);
    }

    /** All elements of a ROW, or what the first one throws. */
    private static String read(HandUnderTheChin x, int d) {
        StringBuilder text = new StringBuilder();
        for (int i = 0; i <= 100; i++) {
            String element = Texts.element(x, d, i);
            if (element.equals("ISE") || element.equals("IAE")) {
                return i == 0 ? element : text.toString();
            }
            text.append(element).append(' ');
        }
        return text.append("too many").toString();
    }

    // ---- promises 38 and 39

    private static void costAndFailure() {
        HandUnderTheChin x = new HandUnderTheChin();
        for (int k = 0; k < 8; k++) {
            for (int f = 0; f <= 9; f++) {
                about("COST of the one on SHELF d");
                due("keep", x.keep(7, 1, k, f), 0);
                due("cost of " + k + " with " + f, x.cost(7), COST[k][f]);
                about("TWINS, SHY ones (those under them, too), and any with FIGURE 0, have none");
                due("failure of " + k + " with " + f, x.toss(7), FAILURE[k][f]);
                due("it stays there", x.cost(7), COST[k][f]);
            }
        }
        about("Promises 38 and 39: -1, -11, -12 (a ROW)");
        x.row(6, 0, 0);
        due("cost of a row", x.cost(6), -12);
        due("toss of a row", x.toss(6), -12);
        due("cost of nothing", x.cost(5), -11);
        due("toss of nothing", x.toss(5), -11);
        for (int wild : new int[] {-1, 8, LEAST, MOST}) {
            due("cost(" + wild + ")", x.cost(wild), -1);
            due("toss(" + wild + ")", x.toss(wild), -1);
        }
    }

    // ---- promise 33

    private static void eightShelves() {
        about("SHELVES 0 .. 7 each hold nothing (at first), a KIND of CHILD, a ROW");
        HandUnderTheChin x = new HandUnderTheChin();
        for (int d = 0; d <= 7; d++) {
            due("nothing at first on " + d, x.cost(d), -11);
        }
        for (int d = 0; d <= 7; d++) {
            due("keep on " + d, x.keep(d, 1, 1, d), 0);
        }
        for (int d = 0; d <= 7; d += 2) {
            due("row on " + d, x.row(d, 0, d), 0);
        }
        for (int d = 0; d <= 7; d++) {
            due("each by itself " + d, x.cost(d), d % 2 == 0 ? -12 : 5 + d);
        }
        for (int d = 0; d <= 7; d++) {
            due("a kind anew on " + d, x.keep(d, 1, 5, 9), 0);
            due("in place of what was", x.cost(d), 18);
            CHECK.same("no row", Texts.element(x, d, 0), "ISE");
            due("no row", x.put(d, 0, 0), -12);
        }
    }

    private static void keepNothing() {
        about("what = 0 nothing (the others do not matter)");
        HandUnderTheChin x = new HandUnderTheChin();
        for (int[] others : new int[][] {{0, 0}, {8, 10}, {-1, -1}, {LEAST, MOST}}) {
            x.keep(0, 1, 3, 3);
            due("nothing in place of a kind", x.keep(0, 0, others[0], others[1]), 0);
            due("nothing is there", x.toss(0), -11);
            x.row(0, 2, 3);
            due("nothing in place of a row", x.keep(0, 0, others[0], others[1]), 0);
            due("nothing is there", x.put(0, 0, 0), -11);
            due("nothing in place of nothing", x.keep(0, 0, others[0], others[1]), 0);
        }
    }

    private static void keepRefused() {
        about("Promise 33: SHELF d gets: .. -1");
        HandUnderTheChin x = new HandUnderTheChin();
        x.keep(0, 1, 7, 9);
        Texts.numbers(x, 1, 0, 5);
        for (int wild : new int[] {-1, 8, LEAST, MOST}) {
            due("shelf " + wild, x.keep(wild, 1, 0, 0), -1);
            due("nothing on shelf " + wild, x.keep(wild, 0, 0, 0), -1);
            due("kind " + wild, x.keep(0, 1, wild, 0), -1);
            due("kind " + wild, x.keep(1, 1, wild, 0), -1);
        }
        for (int wild : new int[] {-1, 10, LEAST, MOST}) {
            due("figure " + wild, x.keep(0, 1, 0, wild), -1);
            due("figure " + wild, x.keep(1, 1, 0, wild), -1);
        }
        for (int wild : new int[] {-1, 2, LEAST, MOST}) {
            due("what " + wild, x.keep(0, wild, 0, 0), -1);
            due("what " + wild, x.keep(1, wild, 0, 0), -1);
        }
        due("the kind stays", x.cost(0), 7);
        CHECK.same("the row stays", read(x, 1), "5 ");
    }

    // ---- promise 34

    private static void rowSizes() {
        about("A ROW has a SORT (0 bytes, 1 shorts, 2 ints) and 0 .. 100 elements, 0 at first");
        HandUnderTheChin x = new HandUnderTheChin();
        for (int sort = 0; sort <= 2; sort++) {
            for (int n : new int[] {0, 1, 99, 100}) {
                due("a row of " + n, x.row(3, sort, n), 0);
                CHECK.same("0 at first", read(x, 3), n == 0 ? "ISE" : Texts.repeat("0 ", n));
                due("the last place", x.put(3, n - 1, 7), n == 0 ? -13 : 0);
                due("none behind it", x.put(3, n, 7), -13);
            }
            due("anew", x.row(3, sort, 100), 0);
            CHECK.same("0 again", read(x, 3), Texts.repeat("0 ", 100));
        }
    }

    private static void rowRefused() {
        about("Promise 34: -1 (n above 100); -14");
        HandUnderTheChin x = new HandUnderTheChin();
        Texts.numbers(x, 0, 1, 5, 6);
        x.keep(1, 1, 0, 0);
        for (int d = 0; d <= 2; d++) {
            due("101", x.row(d, 0, 101), -1);
            due("most", x.row(d, 0, MOST), -1);
            due("-1", x.row(d, 0, -1), -14);
            due("least", x.row(d, 0, LEAST), -14);
            for (int wild : new int[] {-1, 3, LEAST, MOST}) {
                due("sort " + wild, x.row(d, wild, 1), -1);
                due("sort " + wild + " ahead of a size below 0", x.row(d, wild, -1), -1);
            }
        }
        for (int wild : new int[] {-1, 8, LEAST, MOST}) {
            due("shelf " + wild, x.row(wild, 0, 1), -1);
            due("shelf " + wild + " ahead of a size below 0", x.row(wild, 0, -1), -1);
        }
        CHECK.same("the row stays", read(x, 0), "5 6 ");
        due("the kind stays", x.cost(1), 5);
        due("nothing stays", x.cost(2), -11);
    }

    // ---- promises 35 and 36

    private static void lowestBits() {
        about("what is put in keeps its lowest bits");
        int[][] kept = {
            {0, 127, 127}, {0, 128, -128}, {0, 255, -1}, {0, 256, 0}, {0, 257, 1}, {0, -1, -1}, {0, -128, -128},
            {0, -129, 127}, {0, 32768, 0}, {0, 65535, -1}, {0, MOST, -1}, {0, LEAST, 0},
            {1, 127, 127}, {1, 128, 128}, {1, 32767, 32767}, {1, 32768, -32768}, {1, 65535, -1}, {1, 65536, 0},
            {1, 70000, 4464}, {1, -32768, -32768}, {1, -32769, 32767}, {1, MOST, -1}, {1, LEAST, 0},
            {2, 32768, 32768}, {2, 65536, 65536}, {2, -1, -1}, {2, MOST, MOST}, {2, LEAST, LEAST},
        };
        HandUnderTheChin x = new HandUnderTheChin();
        for (int[] k : kept) {
            x.row(4, k[0], 3);
            due("put", x.put(4, 1, k[1]), 0);
            CHECK.same(k[1] + " as sort " + k[0], read(x, 4), "0 " + k[2] + " 0 ");
        }
    }

    private static void putPlaces() {
        about("Promise 35: -1, -11, -12, -13");
        HandUnderTheChin x = new HandUnderTheChin();
        Texts.numbers(x, 0, 2, 1, 2, 3);
        x.keep(1, 1, 0, 0);
        x.row(3, 0, 0);
        for (int i = 0; i < 3; i++) {
            due("place " + i, x.put(0, i, 7 + i), 0);
        }
        for (int wild : new int[] {-1, 3, LEAST, MOST}) {
            due("place " + wild, x.put(0, wild, 9), -13);
            due("place " + wild + " of a kind", x.put(1, wild, 9), -12);
            due("place " + wild + " of nothing", x.put(2, wild, 9), -11);
            due("place " + wild + " of none", x.put(3, wild, 9), -13);
        }
        due("place 0 of none", x.put(3, 0, 9), -13);
        for (int wild : new int[] {-1, 8, LEAST, MOST}) {
            due("shelf " + wild, x.put(wild, -1, 9), -1);
        }
        CHECK.same("nothing more", read(x, 0), "7 8 9 ");
    }

    private static void elementThrows() {
        about("IllegalArgumentException: no such SHELF; IllegalStateException: no ROW, no such place");
        HandUnderTheChin x = new HandUnderTheChin();
        Texts.numbers(x, 0, 0, 5, 6);
        x.row(1, 2, 100);
        x.put(1, 99, LEAST);
        x.keep(2, 1, 0, 0);
        x.row(3, 0, 0);
        CHECK.same("the first", Texts.element(x, 0, 0), "5");
        CHECK.same("the last", Texts.element(x, 0, 1), "6");
        CHECK.same("the last of 100", Texts.element(x, 1, 99), "-2147483648");
        CHECK.same("the first of nothing", Texts.element(x, 4, 0), "ISE");
        CHECK.same("the first of a kind", Texts.element(x, 2, 0), "ISE");
        CHECK.same("the first of none", Texts.element(x, 3, 0), "ISE");
        for (int wild : new int[] {-1, 2, LEAST, MOST}) {
            CHECK.same("place " + wild, Texts.element(x, 0, wild), "ISE");
            CHECK.same("place " + wild + " of a kind", Texts.element(x, 2, wild), "ISE");
            CHECK.same("place " + wild + " of nothing", Texts.element(x, 4, wild), "ISE");
        }
        CHECK.same("place 100", Texts.element(x, 1, 100), "ISE");
        for (int wild : new int[] {-1, 8, LEAST, MOST}) {
            CHECK.same("shelf " + wild, Texts.element(x, wild, 0), "IAE");
            CHECK.same("shelf " + wild + " ahead of no such place", Texts.element(x, wild, -1), "IAE");
        }
    }

    // ---- promise 37

    private static void copyPlaces() {
        about("n elements of the ROW in SHELF d from i on come to that in SHELF e from j on: n");
        for (int sort = 0; sort <= 2; sort++) {
            HandUnderTheChin x = new HandUnderTheChin();
            Texts.numbers(x, 0, sort, 1, 2, 3, 4, -5);
            Texts.numbers(x, 7, sort, 9, 9, 9);
            due("the last one to the last", x.copy(0, 4, 7, 2, 1), 1);
            CHECK.same("it came", read(x, 7), "9 9 -5 ");
            due("all", x.copy(0, 1, 7, 0, 3), 3);
            CHECK.same("they came", read(x, 7), "2 3 4 ");
            CHECK.same("they stay", read(x, 0), "1 2 3 4 -5 ");
            due("none", x.copy(0, 0, 7, 0, 0), 0);
            due("none from the end to the end", x.copy(0, 5, 7, 3, 0), 0);
            CHECK.same("none came", read(x, 7), "2 3 4 ");
            x.row(1, sort, 0);
            due("none of none", x.copy(1, 0, 1, 0, 0), 0);
            due("one of none", x.copy(1, 0, 0, 0, 1), -13);
        }
        HandUnderTheChin x = new HandUnderTheChin();
        x.row(0, 2, 100);
        x.row(1, 2, 100);
        x.put(0, 0, 7);
        x.put(0, 99, MOST);
        due("100", x.copy(0, 0, 1, 0, 100), 100);
        CHECK.same("the first of 100", Texts.element(x, 1, 0), "7");
        CHECK.same("the last of 100", Texts.element(x, 1, 99), "2147483647");
        due("101", x.copy(0, 0, 1, 0, 101), -13);
    }

    private static void copyWithinOneRow() {
        about("n elements of the ROW in SHELF d from i on come");
        HandUnderTheChin x = new HandUnderTheChin();
        Texts.numbers(x, 0, 0, 1, 2, 3, 4, 5);
        due("forth", x.copy(0, 0, 0, 2, 3), 3);
        CHECK.same("as they were", read(x, 0), "1 2 1 2 3 ");
        Texts.numbers(x, 0, 0, 1, 2, 3, 4, 5);
        due("back", x.copy(0, 2, 0, 0, 3), 3);
        CHECK.same("as they were", read(x, 0), "3 4 5 4 5 ");
        due("on themselves", x.copy(0, 0, 0, 0, 5), 5);
        CHECK.same("as they were", read(x, 0), "3 4 5 4 5 ");
    }

    private static void copyRefused() {
        about("Promise 37: -1, -11 (either), -12 (no ROWS of one SORT), -13");
        HandUnderTheChin x = new HandUnderTheChin();
        Texts.numbers(x, 0, 1, 1, 2, 3, 4, 5);
        Texts.numbers(x, 1, 1, 9, 9, 9);
        Texts.numbers(x, 2, 2, 7, 7, 7);
        Texts.numbers(x, 3, 0, 7, 7, 7);
        x.keep(4, 1, 0, 0);
        x.keep(5, 1, 0, 0);
        for (int wild : new int[] {-1, 8, LEAST, MOST}) {
            for (int d = 0; d <= 6; d++) {
                due("from shelf " + wild, x.copy(wild, 0, d, 0, 1), -1);
                due("to shelf " + wild, x.copy(d, 0, wild, 0, -1), -1);
            }
        }
        for (int d = 0; d <= 7; d++) {
            due("from nothing to " + d, x.copy(6, 0, d, 0, -1), -11);
            due("to nothing from " + d, x.copy(d, 9, 6, 0, 1), -11);
        }
        for (int d = 0; d <= 5; d++) {
            due("from a kind to " + d, x.copy(4, 0, d, 0, -1), -12);
            due("to a kind from " + d, x.copy(d, -1, 4, 0, 1), -12);
        }
        int[] sorts = {1, 1, 2, 0};
        for (int d = 0; d <= 3; d++) {
            for (int e = 0; e <= 3; e++) {
                due("from " + d + " to " + e, x.copy(d, 0, e, 0, -1), sorts[d] == sorts[e] ? -13 : -12);
            }
        }
        int[][] places = {
            {-1, 0, 1}, {0, -1, 1}, {0, 0, -1}, {5, 0, 1}, {6, 0, 0}, {0, 3, 1}, {0, 4, 0}, {4, 0, 2}, {0, 2, 2}, {0, 0, 4},
            {3, 0, 3}, {-1, 0, 0}, {0, -1, 0}, {-1, -1, 2}, {1, 1, MOST}, {MOST, 0, 1}, {0, MOST, 1}, {MOST, MOST, MOST},
            {LEAST, 0, 0}, {0, LEAST, 0}, {0, 0, LEAST}, {LEAST, LEAST, LEAST}, {1, 1, LEAST}, {MOST, 0, LEAST}, {0, 0, MOST},
        };
        for (int[] p : places) {
            due("copy" + java.util.Arrays.toString(p), x.copy(0, p[0], 1, p[1], p[2]), -13);
        }
        CHECK.same("nothing came", read(x, 0) + read(x, 1) + read(x, 2) + read(x, 3), "1 2 3 4 5 9 9 9 7 7 7 7 7 7 ");
    }
}
