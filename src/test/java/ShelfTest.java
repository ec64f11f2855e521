/** Promises 33 to 39: shelves. */
public final class ShelfTest {
    private static final Check CHECK = new Check("shelves");

    public static void main(String[] args) {
        keep();
        row();
        put();
        element();
        copy();
        copyRefusals();
        costAndToss();
        CHECK.end();
    }

    private static void due(String call, long got, long want) {
        CHECK.due(call, got, want);
    }

    private static void keep() {
        HandUnderTheChin x = new HandUnderTheChin();
        due("keep(0, 1, 7, 9)", x.keep(0, 1, 7, 9), 0);
        due("keep(7, 1, 0, 0)", x.keep(7, 1, 0, 0), 0);
        due("keep(-1, ..)", x.keep(-1, 0, 0, 0), -1);
        due("keep(8, ..)", x.keep(8, 1, 0, 0), -1);
        due("what 2", x.keep(0, 2, 0, 0), -1);
        due("what -1", x.keep(0, -1, 0, 0), -1);
        due("kind 8", x.keep(0, 1, 8, 0), -1);
        due("kind -1", x.keep(0, 1, -1, 0), -1);
        due("figure 10", x.keep(0, 1, 0, 10), -1);
        due("figure -1", x.keep(0, 1, 0, -1), -1);
        due("still the diver", x.cost(0), 7);
        due("the others do not matter", x.keep(0, 0, 99, -99), 0);
        due("nothing", x.cost(0), -11);
        x.row(0, 0, 4);
        due("a kind in place of a row", x.keep(0, 1, 1, 2), 0);
        due("no row any more", x.put(0, 0, 0), -12);
        x.row(0, 0, 4);
        due("nothing in place of a row", x.keep(0, 0, 0, 0), 0);
        due("no row any more", x.put(0, 0, 0), -11);
    }

    private static void row() {
        HandUnderTheChin x = new HandUnderTheChin();
        due("row(0, 0, 0)", x.row(0, 0, 0), 0);
        CHECK.same("no element", Texts.element(x, 0, 0), "ISE");
        due("row(7, 2, 100)", x.row(7, 2, 100), 0);
        for (int i = 0; i < 100; i++) {
            CHECK.same("0 at first", Texts.element(x, 7, i), "0");
        }
        CHECK.same("100 of them", Texts.element(x, 7, 100), "ISE");
        due("n 101", x.row(0, 0, 101), -1);
        due("n -1", x.row(0, 0, -1), -14);
        due("least n", x.row(0, 0, Integer.MIN_VALUE), -14);
        due("most n", x.row(0, 0, Integer.MAX_VALUE), -1);
        due("shelf 8", x.row(8, 0, -1), -1);
        due("shelf -1", x.row(-1, 0, 1), -1);
        due("sort 3", x.row(0, 3, -1), -1);
        due("sort -1", x.row(0, -1, 1), -1);
        x.put(7, 3, 5);
        due("a row anew", x.row(7, 1, 5), 0);
        CHECK.same("0 again", Texts.element(x, 7, 3), "0");
        x.keep(1, 1, 0, 0);
        due("a row in place of a kind", x.row(1, 0, 1), 0);
        due("no kind any more", x.cost(1), -12);
    }

    private static void put() {
        HandUnderTheChin x = new HandUnderTheChin();
        due("shelf -1", x.put(-1, 0, 0), -1);
        due("shelf 8", x.put(8, 0, 0), -1);
        due("nothing", x.put(0, 0, 0), -11);
        x.keep(0, 1, 0, 0);
        due("a kind", x.put(0, 0, 0), -12);
        int[][] kept = {
            {0, 127, 127}, {0, 128, -128}, {0, 255, -1}, {0, 256, 0}, {0, -129, 127},
            {1, 32767, 32767}, {1, 32768, -32768}, {1, 70000, 4464}, {1, -32769, 32767},
            {2, Integer.MAX_VALUE, Integer.MAX_VALUE}, {2, Integer.MIN_VALUE, Integer.MIN_VALUE},
        };
        for (int[] k : kept) {
            x.row(0, k[0], 2);
            due("put", x.put(0, 1, k[1]), 0);
            CHECK.same("the lowest bits of " + k[1], Texts.element(x, 0, 1), Integer.toString(k[2]));
            CHECK.same("the other", Texts.element(x, 0, 0), "0");
        }
        due("place 2", x.put(0, 2, 0), -13);
        due("place -1", x.put(0, -1, 0), -13);
        x.row(0, 0, 0);
        due("an empty row", x.put(0, 0, 0), -13);
    }

    private static void element() {
        HandUnderTheChin x = new HandUnderTheChin();
        CHECK.same("shelf -1", Texts.element(x, -1, 0), "IAE");
        CHECK.same("shelf 8", Texts.element(x, 8, -1), "IAE");
        CHECK.same("nothing", Texts.element(x, 0, 0), "ISE");
        x.keep(0, 1, 0, 0);
        CHECK.same("a kind", Texts.element(x, 0, 0), "ISE");
        Texts.numbers(x, 0, 2, 5, -6);
        CHECK.same("the first", Texts.element(x, 0, 0), "5");
        CHECK.same("the second", Texts.element(x, 0, 1), "-6");
        CHECK.same("no third", Texts.element(x, 0, 2), "ISE");
        CHECK.same("place -1", Texts.element(x, 0, -1), "ISE");
    }

    private static void copy() {
        HandUnderTheChin x = new HandUnderTheChin();
        Texts.numbers(x, 0, 1, 1, 2, 3, 4, 5);
        Texts.numbers(x, 1, 1, 9, 9, 9);
        due("two", x.copy(0, 3, 1, 1, 2), 2);
        CHECK.same("they came", read(x, 1, 3), "9 4 5 ");
        due("forth in one row", x.copy(0, 0, 0, 1, 4), 4);
        CHECK.same("forth", read(x, 0, 5), "1 1 2 3 4 ");
        due("back in one row", x.copy(0, 1, 0, 0, 4), 4);
        CHECK.same("back", read(x, 0, 5), "1 2 3 4 4 ");
        due("none", x.copy(0, 0, 1, 0, 0), 0);
        due("none at the ends", x.copy(0, 5, 1, 3, 0), 0);
        CHECK.same("nothing came", read(x, 1, 3), "9 4 5 ");
    }

    private static void copyRefusals() {
        HandUnderTheChin x = new HandUnderTheChin();
        Texts.numbers(x, 0, 1, 1, 2, 3, 4, 5);
        Texts.numbers(x, 1, 1, 9, 9, 9);
        Texts.numbers(x, 2, 2, 7, 7, 7);
        x.keep(3, 1, 0, 0);
        due("shelf 8", x.copy(8, 0, 1, 0, 1), -1);
        due("shelf -1", x.copy(0, 0, -1, 0, 1), -1);
        due("from nothing", x.copy(4, 0, 1, 0, 1), -11);
        due("to nothing", x.copy(0, 0, 4, 0, 1), -11);
        due("a kind to nothing", x.copy(3, 0, 4, 0, 1), -11);
        due("from a kind", x.copy(3, 0, 1, 0, 1), -12);
        due("to a kind", x.copy(0, 0, 3, 0, 1), -12);
        due("another sort", x.copy(0, 0, 2, 0, 1), -12);
        due("another sort, no place", x.copy(0, 9, 2, 0, 1), -12);
        due("i -1", x.copy(0, -1, 1, 0, 1), -13);
        due("j -1", x.copy(0, 0, 1, -1, 1), -13);
        due("n -1", x.copy(0, 0, 1, 0, -1), -13);
        due("behind the end of d", x.copy(0, 4, 1, 0, 2), -13);
        due("behind the end of e", x.copy(0, 0, 1, 2, 2), -13);
        due("i 6", x.copy(0, 6, 1, 0, 0), -13);
        due("j 4", x.copy(0, 0, 1, 4, 0), -13);
        due("no running over", x.copy(0, 1, 1, 1, Integer.MAX_VALUE), -13);
        due("no running over", x.copy(0, Integer.MAX_VALUE, 1, 0, 1), -13);
        CHECK.same("nothing came", read(x, 1, 3), "9 9 9 ");
    }

    private static String read(HandUnderTheChin x, int d, int n) {
        StringBuilder text = new StringBuilder();
        for (int i = 0; i < n; i++) {
            text.append(Texts.element(x, d, i)).append(' ');
        }
        return text.toString();
    }

    /** COST and FAILURE of each KIND with FIGURE 0, 4, 9. */
    private static void costAndToss() {
        int[][] due = {
            {5, -15, 5, 4, 5, 9},
            {5, -15, 9, 104, 14, 109},
            {3, -15, 3, -15, 3, -15},
            {10, -15, 10, -15, 10, -15},
            {4, -15, 8, 104, 13, 109},
            {9, -15, 13, 104, 18, 109},
            {3, -15, 7, -15, 12, -15},
            {2, -15, 4, 204, 7, 207},
        };
        int[] figures = {0, 4, 9};
        HandUnderTheChin x = new HandUnderTheChin();
        for (int k = 0; k < 8; k++) {
            for (int f = 0; f < 3; f++) {
                x.keep(5, 1, k, figures[f]);
                due("cost of " + k + " with " + figures[f], x.cost(5), due[k][2 * f]);
                due("toss of " + k + " with " + figures[f], x.toss(5), due[k][2 * f + 1]);
            }
        }
        x.row(5, 0, 1);
        due("cost of a row", x.cost(5), -12);
        due("toss of a row", x.toss(5), -12);
        due("cost of nothing", x.cost(6), -11);
        due("toss of nothing", x.toss(6), -11);
        due("cost(8)", x.cost(8), -1);
        due("toss(8)", x.toss(8), -1);
        due("cost(-1)", x.cost(-1), -1);
        due("toss(-1)", x.toss(-1), -1);
    }
}
