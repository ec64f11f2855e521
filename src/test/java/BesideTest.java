/** Promises 15 to 26: beside one another. */
public final class BesideTest {
    private static final long REFUSED = 1000000001L;
    private static final Check CHECK = new Check("beside");

    public static void main(String[] args) {
        beside();
        helps();
        costs();
        bands();
        frights();
        was();
        dare();
        group();
        forget();
        coldest();
        last();
        mean();
        CHECK.end();
    }

    private static void due(String call, long got, long want) {
        CHECK.due(call, got, want);
    }

    private static void beside() {
        HandUnderTheChin x = new HandUnderTheChin();
        due("nobody", x.beside(-1), 0);
        due("nobody is the first", x.beside(0), -1);
        x = Texts.told("c2000;");
        due("one", x.beside(-1), 0);
        due("one", x.beside(0), 0);
        due("no second", x.beside(1), -1);
        // PASSES 3, 0, 3, 1, 2: best 1 3 3 2 next to each other, the 0 at an end.
        x = Texts.told("c5000;c2000;c5000;c0000;c4000;");
        due("the sum", x.beside(-1), 3 * 1 + 3 * 3 + 3 * 2);
        int[] order = {1, 3, 0, 2, 4};
        for (int i = 0; i < order.length; i++) {
            due("the order " + i, x.beside(i), order[i]);
        }
        due("beside(5)", x.beside(5), -1);
        due("beside(-2)", x.beside(-2), -1);
        x = Texts.told(Texts.repeat("c0000;", 6));
        due("all alike", x.beside(-1), 5);
        due("the first by numbers", x.beside(5), 5);
        due("the places do not change", x.child(0, 0), 0);
    }

    private static void helps() {
        due("nobody", new HandUnderTheChin().helps(), -4);
        HandUnderTheChin x = Texts.told("c4009;c0009;c4009;");
        due("twice 1 is 2, as 1 times 2: the least", x.helps(), 0);
        x.feels(0, 0, 0);
        due("who is not ready does not", x.helps(), 1);
        x = Texts.told("c4009;c4009;c5009;");
        due("two beside", x.helps(), 1);
        x.feels(1, 1, 7);
        due("who swims does not", x.helps(), 2);
        x.feels(2, 0, 0);
        due("the one that is left", x.helps(), 0);
        x.feels(0, 0, 0);
        due("none", x.helps(), -4);
        x = Texts.told("c2020;c2020;c2020;c0020;");
        due("1 by one beside is more than 0 by two", x.helps(), 3);
        x = Texts.told("c2020;");
        due("ready, though nobody gains", x.helps(), 0);
    }

    private static void costs() {
        HandUnderTheChin x = Texts.told("c0020;c4000;c1307;s25;");
        due("trust enough all the same", x.costs(0), 0);
        due("a pusher has no fright", x.costs(1), 0);
        due("a bold one", x.costs(2), 2);
        x.feels(0, 1, 7);
        due("swims", x.costs(0), 0);
        x.feels(2, 0, 0);
        due("nothing to lose", x.costs(2), 0);
        due("costs(3)", x.costs(3), -1);
        due("costs(-1)", x.costs(-1), -1);
        due("costs of nobody", new HandUnderTheChin().costs(0), -1);
        due("nothing changed", x.child(2, 2), 0);
    }

    private static void bands() {
        // NEEDS 10 at STEP 6.
        HandUnderTheChin x = Texts.told("c0004;s06;");
        due("10 - 6, then 10 - 4 by 5", x.bands(0, 6, 2), 1);
        due("no air, less", x.bands(0, 0, 1), 0);
        due("air 5: 5 by 4 at once", x.bands(0, 5, 1), 0);
        due("air falls as trust grows", x.bands(0, 6, 1), -4);
        due("all out in week 1", x.bands(0, 6, 9), 1);
        x.feels(0, 0, 9);
        due("the week without air is looked at", x.bands(0, 0, 5), 0);
        due("behind a week it is enough", x.bands(0, 1, 1), -4);
        x.feels(0, 0, 7);
        due("air 4 and 2 hold, 0 not", x.bands(0, 4, 2), 2);
        x.feels(0, 0, 1);
        due("9 holds", x.bands(0, 9, 1), -4);
        due("2 less each week", x.bands(0, 9, 2), 1);
        x = Texts.told("c7000;");
        due("0 at least", x.bands(0, 9, 1), -4);
        x = Texts.told("c2020;s06;");
        due("20 at most is enough for 20", x.bands(0, 9, 1), -4);
        due("bands(0, -1, 1)", x.bands(0, -1, 1), -1);
        due("bands(0, 10, 1)", x.bands(0, 10, 1), -1);
        due("bands(0, 1, 0)", x.bands(0, 1, 0), -1);
        due("bands(0, 1, 10)", x.bands(0, 1, 10), -1);
        due("bands(1, 1, 1)", x.bands(1, 1, 1), -1);
        due("bands(-1, 1, 1)", x.bands(-1, 1, 1), -1);
        x.feels(0, 1, 7);
        due("swims", x.bands(0, 1, 1), -3);
        due("out of range first", x.bands(0, 1, 0), -1);
    }

    private static void frights() {
        HandUnderTheChin x = Texts.told("c0020;c0000;c4005;");
        part(x, 0, 0, 0, 2, 1, 1);
        part(x, 0, 0, 1, 2, 0, 1);
        part(x, 0, 1, 1, 2, 1, 2);
        part(x, 0, 1, 1, 20, 19, 20);
        part(x, 0, 2, 1, 2, 3, 4);
        part(x, 0, 2, 2, 3, 4, 9);
        part(x, 0, 8, 0, 20, 1, 1);
        // 7 of 8: the first 7 (the 8th, by 20, can not matter), or one swallow among them: 27 times 19 to the 7th.
        part(x, 0, 8, 7, 20, 24134536953L, 25600000000L);
        part(x, 1, 8, 1, 2, 0, 1);
        part(x, 1, 8, 0, 2, 1, 1);
        // A pusher is never frightened: TRUST 5 is enough for STEPS 0 .. 3.
        part(x, 2, 4, 4, 2, 1, 16);
        part(x, 2, 8, 5, 2, 0, 1);
        // A diver with TRUST 1: a swallow leaves 0, and 1 is needed.
        HandUnderTheChin diver = Texts.told("c7001;");
        part(diver, 0, 1, 1, 2, 1, 2);
        part(diver, 0, 8, 1, 2, 1, 2);
        x.feels(0, 1, 7);
        part(x, 0, 8, 0, 2, 1, 1);
        part(x, 0, 8, 1, 2, 0, 1);
        x.feels(0, 1, 6);
        // STEP 6 needs 10: ready with 20, 17, 14, 11, not with 8.
        part(x, 0, 8, 1, 20, 159999, 160000);
        due("no such one", x.frights(3, 0, 0, 2, 0), REFUSED);
        due("no such one", x.frights(-1, 0, 0, 2, 0), REFUSED);
        due("n 9", x.frights(0, 9, 0, 2, 0), REFUSED);
        due("n -1", x.frights(0, -1, 0, 2, 0), REFUSED);
        due("k 8", x.frights(0, 1, 8, 2, 0), REFUSED);
        due("k -1", x.frights(0, 1, -1, 2, 0), REFUSED);
        due("t 1", x.frights(0, 1, 1, 1, 0), REFUSED);
        due("t 21", x.frights(0, 1, 1, 21, 0), REFUSED);
        due("part 2", x.frights(0, 1, 1, 2, 2), REFUSED);
        due("part -1", x.frights(0, 1, 1, 2, -1), REFUSED);
    }

    private static void part(HandUnderTheChin x, int c, int n, int k, int t, long above, long below) {
        String call = "frights(" + c + ", " + n + ", " + k + ", " + t + ", ";
        due(call + "0)", x.frights(c, n, k, t, 0), above);
        due(call + "1)", x.frights(c, n, k, t, 1), below);
    }

    private static void was() {
        HandUnderTheChin x = new HandUnderTheChin();
        due("nothing", x.was(1, 0, 0, 0), -11);
        x.keep(1, 1, 0, 0);
        due("a kind", x.was(1, 0, 0, 0), -12);
        Texts.numbers(x, 1, 0);
        due("an empty row fits all", x.was(1, 5, 0, 0), 255);
        due("all eight", x.was(1, 5, 0, 1), 8);
        Texts.numbers(x, 1, 0, 5);
        due("the first fits all", x.was(1, 5, 0, 0), 255);
        due("another trust", x.was(1, 6, 0, 0), 0);
        Texts.numbers(x, 1, 1, 5, 6);
        due("bold ones", x.was(1, 5, 3, 0), 2 + 16 + 32 + 128);
        due("four", x.was(1, 5, 3, 1), 4);
        Texts.numbers(x, 1, 2, 5, 8);
        due("3: shy, twin, clinger", x.was(1, 5, 2, 0), 4 + 8 + 64);
        due("with figure 3 a clinger has 4", x.was(1, 5, 3, 0), 4 + 8);
        Texts.numbers(x, 1, 0, 18, 20, 20, 20);
        due("20 at most", x.was(1, 18, 0, 0), 1 + 4 + 8 + 64);
        Texts.numbers(x, 1, 0, 5, -128);
        due("nothing is skipped here", x.was(1, 5, 0, 0), 0);
        due("was(8, ..)", x.was(8, 5, 0, 0), -1);
        due("was(-1, ..)", x.was(-1, 5, 0, 0), -1);
        due("v 21", x.was(1, 21, 0, 0), -1);
        due("v -1", x.was(1, -1, 0, 0), -1);
        due("f 10", x.was(1, 5, 10, 0), -1);
        due("f -1", x.was(1, 5, -1, 0), -1);
        due("what 2", x.was(1, 5, 0, 2), -1);
        due("what -1", x.was(1, 5, 0, -1), -1);
        due("out of range ahead of nothing", x.was(2, 21, 0, 0), -1);
    }

    private static void dare() {
        // FRIGHT 3: not alone (1 - 3 < 0), with the other 2 - 3 is no less than -1.
        HandUnderTheChin x = Texts.told("c0000;c0000;c0004;c4000;c2900;c0000;s57;");
        due("two who fear", x.dare(0, 1), 0);
        due("one ready: the other gains nothing by jumping too", x.dare(0, 2), 1);
        due("the other way round", x.dare(2, 0), 10);
        due("a pusher and a shy one", x.dare(3, 4), 10);
        due("a shy one and a pusher", x.dare(4, 3), 1);
        due("who swims dares", x.dare(5, 4), 10);
        due("two who dare", x.dare(3, 2), 11);
        // FRIGHT 2: with the other 2 - 2 is more than -1.
        HandUnderTheChin bold = Texts.told("c1000;c0004;c1000;");
        due("a bold one follows", bold.dare(0, 1), 11);
        due("two bold ones, the first pair", bold.dare(0, 2), 0);
        due("dare(0, 0)", x.dare(0, 0), -1);
        due("dare(0, 6)", x.dare(0, 6), -1);
        due("dare(6, 0)", x.dare(6, 0), -1);
        due("dare(-1, 0)", x.dare(-1, 0), -1);
    }

    private static void group() {
        HandUnderTheChin x = new HandUnderTheChin();
        due("nobody", x.group(30, 0), 0);
        due("nobody", x.group(0, 1), 0);
        // HOLDS 6, 2, 1, 3, 1.
        x = Texts.told("c6900;c0000;c1000;c3000;c7000;");
        due("0 holds nobody", x.group(0, 0), 0);
        due("1: the least bits", x.group(1, 0), 4);
        due("2", x.group(2, 0), 4 + 16);
        due("3: still two, the least bits", x.group(3, 0), 2 + 4);
        due("4", x.group(4, 0), 2 + 4 + 16);
        due("4: three", x.group(4, 1), 3);
        due("7: four", x.group(7, 0), 2 + 4 + 8 + 16);
        due("12: four, the least bits", x.group(12, 0), 1 + 2 + 4 + 8);
        due("13: all", x.group(13, 0), 31);
        due("30: all", x.group(30, 1), 5);
        due("group(31, 0)", x.group(31, 0), -1);
        due("group(-1, 0)", x.group(-1, 0), -1);
        due("group(1, 2)", x.group(1, 2), -1);
        due("group(1, -1)", x.group(1, -1), -1);
    }

    private static void forget() {
        due("nobody", new HandUnderTheChin().forget(), 0);
        HandUnderTheChin x = Texts.told("c0004;");
        due("1 week", x.forget(), 1);
        x.feels(0, 0, 3);
        due("not ready now", x.forget(), 0);
        x.feels(0, 0, 12);
        due("9 weeks", x.forget(), 9);
        x.feels(0, 0, 13);
        due("13 - 9 is still enough", x.forget(), -4);
        // STEP 6 needs 10: behind 2 weeks 8, behind 3 weeks STEP 5 needs 9 and 7 is there.
        x.feels(0, 1, 6);
        x.feels(0, 0, 10);
        due("1 week", x.forget(), 1);
        x.feels(0, 0, 12);
        due("behind 3 weeks 9 is enough for STEP 5, behind 4 not", x.forget(), 4);
        x.feels(0, 1, 7);
        due("who swims is not ready", x.forget(), 0);
        CHECK.same("nothing changed", Texts.state(x), "1 0 12 7 0 1 |0 0 12 7 0 ");
    }

    private static void coldest() {
        // BEARS 5, 8, 4, 20; the fifth SWIMS.
        HandUnderTheChin x = Texts.told("c0000;c1300;c2000;c7000;c0000;s47;");
        due("0 more", x.coldest(0, 0), 0);
        due("4 more", x.coldest(3, 4), 0);
        due("5 more", x.coldest(3, 5), 1);
        due("6 more", x.coldest(3, 6), 2);
        due("9 more", x.coldest(3, 9), 3);
        due("60 more: 20 at most", x.coldest(4, 60), 3);
        due("not the one itself", x.coldest(2, 9), 2);
        Texts.tell(x, "m00;m00;m00;");
        due("from what it is", x.coldest(3, 2), 1);
        due("from what it is", x.coldest(0, 2), 1);
        due("coldest(5, 0)", x.coldest(5, 0), -1);
        due("coldest(-1, 0)", x.coldest(-1, 0), -1);
        due("coldest(0, 61)", x.coldest(0, 61), -1);
        due("coldest(0, -1)", x.coldest(0, -1), -1);
        due("nothing changed", x.count(4), 9);
    }

    private static void last() {
        due("nobody", new HandUnderTheChin().last(), -4);
        HandUnderTheChin x = Texts.told("c0005;c0003;c0003;c0000;s31;");
        due("the least step, then trust, then number", x.last(), 1);
        x.feels(2, 0, 2);
        due("less trust", x.last(), 2);
        x.feels(3, 1, 0);
        due("no trust", x.last(), 3);
        x = Texts.told("c0005;s07;");
        due("who swims too", x.last(), 0);
    }

    private static void mean() {
        HandUnderTheChin x = new HandUnderTheChin();
        due("nobody above", x.mean(0), 0);
        due("nobody below", x.mean(1), 1);
        x = Texts.told("c0000;c0000;c0000;c0000;s02;s14;");
        due("6 by 4 above", x.mean(0), 3);
        due("6 by 4 below", x.mean(1), 2);
        x.feels(0, 1, 0);
        due("4 by 4 above", x.mean(0), 1);
        due("4 by 4 below", x.mean(1), 1);
        x.feels(1, 1, 0);
        due("0 by 4 above", x.mean(0), 0);
        due("0 by 4 below", x.mean(1), 1);
        x = Texts.told("c0000;s05;");
        due("5 by 1 above", x.mean(0), 5);
        due("5 by 1 below", x.mean(1), 1);
        due("mean(2)", x.mean(2), REFUSED);
        due("mean(-1)", x.mean(-1), REFUSED);
    }
}
