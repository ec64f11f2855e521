/** Promises 27 to 32: told minutes, the image, what is told. */
public final class ToldTest {
    private static final Check CHECK = new Check("told");

    public static void main(String[] args) {
        forged();
        judge();
        judgeSkips();
        weeks();
        image();
        count();
        CHECK.end();
    }

    private static void due(String call, long got, long want) {
        CHECK.due(call, got, want);
    }

    private static void forged() {
        HandUnderTheChin x = new HandUnderTheChin();
        due("forged(-1)", x.forged(-1), -1);
        due("forged(8)", x.forged(8), -1);
        due("nothing", x.forged(2), -11);
        x.keep(2, 1, 0, 0);
        due("a kind", x.forged(2), -12);
        Texts.numbers(x, 2, 2, 0, 0, 0);
        due("unwhole", x.forged(2), -13);
        Texts.numbers(x, 2, 2);
        due("an empty row", x.forged(2), -4);
        Texts.numbers(x, 2, 2, 0, 0);
        due("nobody there", x.forged(2), 0);
        Texts.tell(x, "c0020;c0000;s05;");
        due("one there", x.forged(2), -4);
        Texts.numbers(x, 2, 1, 0, 2, 0, 2, 1, 3);
        due("two lets", x.forged(2), -4);
        Texts.numbers(x, 2, 0, 0, 2, 0, 2, 0, 0);
        due("held, though it swims", x.forged(2), 2);
        Texts.numbers(x, 2, 0, 0, 2, 0, 1, 1, 2, 0, 3);
        due("shown, though it swims", x.forged(2), 3);
        Texts.numbers(x, 2, 0, 1, 0, 1, 4);
        due("no such way", x.forged(2), 1);
        Texts.numbers(x, 2, 0, 1, -1);
        due("no such way", x.forged(2), 0);
        Texts.numbers(x, 2, 2, 1, 0, -1, 0);
        due("no such one", x.forged(2), 1);
        Texts.numbers(x, 2, 2, 2, 0);
        due("no such one", x.forged(2), 0);
        CHECK.same("nothing changed", Texts.state(x), "2 0 20 5 0 0 |0 0 20 5 0 |0 0 0 0 0 ");
    }

    private static void judge() {
        HandUnderTheChin x = new HandUnderTheChin();
        due("nobody", x.judge(1, 0), -1);
        Texts.tell(x, "c0003;c0010;s16;");
        due("judge(-1, 0)", x.judge(-1, 0), -1);
        due("judge(8, 0)", x.judge(8, 0), -1);
        due("judge(1, 2)", x.judge(1, 2), -1);
        due("judge(1, -1)", x.judge(1, -1), -1);
        due("nothing", x.judge(1, 0), -11);
        x.keep(1, 1, 0, 0);
        due("a kind", x.judge(1, 0), -12);
        Texts.numbers(x, 1, 0);
        due("an empty row", x.judge(1, 0), -4);
        // 0 held, 1 let (it swims, and 0 has 1 more), then 0 alone: let, let, let, held, let, let, held, let, let.
        Texts.numbers(x, 1, 1, 3, 5, 6, 6, 6, 6, 8, 8, 8, 10, 10, 10, 10, 10);
        due("as it was", x.judge(1, 0), -4);
        x.put(1, 6, 7);
        due("the first that is not so", x.judge(1, 0), 6);
        x.put(1, 0, 4);
        due("the first that is not so", x.judge(1, 0), 0);
        Texts.numbers(x, 1, 2, 10, 10, 10, 9);
        due("the other one", x.judge(1, 1), 3);
        due("nothing changed", x.count(1), 0);
    }

    private static void judgeSkips() {
        HandUnderTheChin x = Texts.told("c0003;");
        Texts.numbers(x, 1, 0, -128, 5, -127);
        due("the least byte", x.judge(1, 0), 2);
        Texts.numbers(x, 1, 1, -32768, -128);
        due("the least short", x.judge(1, 0), 1);
        Texts.numbers(x, 1, 2, Integer.MIN_VALUE, 5, Integer.MIN_VALUE, -32768);
        due("the least int", x.judge(1, 0), 3);
        x.row(1, 0, 100);
        for (int i = 0; i < 100; i++) {
            x.put(1, i, -128);
        }
        due("a row of 100", x.judge(1, 0), -4);
        // 3, 5, 7, 9, 11: held at the STEPS that need 4, 6, 8, 10.
        x.put(1, 99, 11);
        due("the last of 100", x.judge(1, 0), -4);
        x.put(1, 99, 10);
        due("the last of 100", x.judge(1, 0), 99);
    }

    private static void weeks() {
        HandUnderTheChin x = new HandUnderTheChin();
        due("nobody", x.weeks(1, 5, 0), -3);
        due("out of range first", x.weeks(0, 5, 0), -1);
        Texts.tell(x, "c0010;");
        due("weeks(0, ..)", x.weeks(0, 5, 0), -1);
        due("weeks(21, ..)", x.weeks(21, 5, 0), -1);
        due("what 2", x.weeks(1, 5, 2), -1);
        due("what -1", x.weeks(1, 5, -1), -1);
        String bath = "c0006;c1304;c6903;c5001;s16;m00;m21;";
        for (int seed : new int[] {0, 1, -1, 77, 1103515245, Integer.MIN_VALUE, Integer.MAX_VALUE}) {
            for (int n : new int[] {1, 2, 20}) {
                HandUnderTheChin told = Texts.told(bath);
                int[] want = played(Texts.told(bath), n, seed);
                due("steps, seed " + seed, told.weeks(n, seed, 0), want[0]);
                due("swallows, seed " + seed, told.weeks(n, seed, 1), want[1]);
            }
        }
        Texts.tell(x, "s07;");
        due("who swims: nothing", x.weeks(20, -7, 0), 0);
        due("who swims: nothing", x.weeks(20, -7, 1), 0);
        CHECK.same("nothing changed", Texts.state(x), "1 0 10 7 0 1 |0 0 10 7 0 ");
    }

    /** STEPS and SWALLOWS of n weeks, played by the calls themselves, drawn without ints. */
    static int[] played(HandUnderTheChin x, int n, int seed) {
        int[] sums = new int[2];
        long z = seed & 0xffffffffL;
        x.image();
        for (int i = 0; i < 10 * n; i++) {
            if (i % 10 == 0) {
                x.restore();
            }
            z = z * 1103515245L + 12345L & 0xffffffffL;
            int c = (int) ((z & 0x7fffffffL) >> 16) % x.count(0);
            z = z * 1103515245L + 12345L & 0xffffffffL;
            int way = (int) ((z & 0x7fffffffL) >> 16) % 4;
            int before = x.count(3);
            boolean taken = x.minute(c, way) >= 0;
            sums[0] += x.count(3) - before;
            sums[1] += taken && way == 2 && x.count(3) == before ? 1 : 0;
        }
        return sums;
    }

    private static void image() {
        HandUnderTheChin x = new HandUnderTheChin();
        due("none", x.restore(), -3);
        due("of nobody", x.image(), 0);
        Texts.tell(x, "c0503;c1402;m00;m12;");
        due("restore nobody", x.restore(), 0);
        due("nobody", x.count(0), 0);
        due("the shelf stays", x.bath(0), 4);
        String then = Texts.state(x);
        due("image", x.image(), 2);
        x.minute(0, 2);
        x.rest(5);
        x.change(0, 1);
        x.keep(1, 1, 5, 5);
        x.comes(1, 4);
        x.feels(0, 1, 7);
        due("restore", x.restore(), 2);
        CHECK.same("as it was", Texts.state(x), then);
        due("shelves stay", x.cost(1), 14);
        x.feels(0, 0, 20);
        due("restore again", x.restore(), 2);
        CHECK.same("as it was", Texts.state(x), then);
        x.minute(1, 0);
        due("another image", x.image(), 3);
        x.minute(1, 0);
        due("the newer one", x.restore(), 3);
        due("the newer one", x.count(1), 3);
    }

    private static void count() {
        HandUnderTheChin x = Texts.told("c0503;c1402;c0020;s23;m00;m00;s17;");
        due("children", x.count(0), 3);
        due("minute", x.count(1), 2);
        due("trust", x.count(2), 7 + 2 + 20);
        due("steps", x.count(3), 10);
        due("cold", x.count(4), 4);
        due("who swim", x.count(5), 2);
        due("count(6)", x.count(6), -1);
        due("count(-1)", x.count(-1), -1);
    }
}
