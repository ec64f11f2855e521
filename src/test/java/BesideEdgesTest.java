/** The edges of promises 15 to 26, each with the words that name it. */
public final class BesideEdgesTest {
    private static final long REFUSED = 1000000001L;
    private static final int LEAST = Integer.MIN_VALUE;
    private static final int MOST = Integer.MAX_VALUE;
    private static final Check CHECK = new Check("edges of beside one another");

    /** HOLDS 2, 1, 3, 1, 6, 1; NEEDS 4, 2, 8, 2, 7, 1; BEARS 5, 8, 4, 7, 4, 20; PASSES 1, 1, 0, 3, 0, 1. */
    private static final String SIX = "c0505;c1307;c2509;c5204;c6906;c7903;";
    private static final String FIVE_SHY = Texts.repeat("c2020;", 5);

    public static void main(String[] args) {
        besideOrders();
        besideRefused();
        helps();
        helpsNone();
        costs();
        bandsByWeeks();
        bandsEdges();
        bandsRefused();
        fraction();
        frightsEdges();
        frightsRefused();
        wasEdges();
        wasKinds();
        wasRefused();
        dare();
        group();
        forget();
        coldest();
        last();
        mean();
        CHECK.end();
    }

    private static void about(String words) {
        CHECK.about(words);
    }

    private static void due(String call, long got, long want) {
        CHECK.due(call, got, want);
    }

    // ---- promise 15

    private static void order(String bath, int sum, int... order) {
        HandUnderTheChin x = Texts.told(bath);
        due("sum of " + bath, x.beside(-1), sum);
        for (int i = 0; i < order.length; i++) {
            due("place " + i + " of " + bath, x.beside(i), order[i]);
        }
        due("no such place", x.beside(order.length), -1);
    }

    private static void besideOrders() {
        about("the order of all CHILDREN in which the sum, over all twos beside one another, of PASSES of one times PASSES of the other is most");
        order("c5000;", 0, 0);
        order("c5000;c4000;", 6, 0, 1);
        order("c4000;c2000;c5000;", 6, 0, 2, 1);
        order(SIX, 7, 0, 1, 3, 5, 2, 4);
        order(Texts.repeat("c5000;", 6), 45, 0, 1, 2, 3, 4, 5);
        order("c0000;c4000;c5000;c0000;c4000;c5000;", 25, 0, 1, 2, 5, 4, 3);
        about("of several the first (by numbers)");
        order(Texts.repeat("c2000;", 6), 0, 0, 1, 2, 3, 4, 5);
        order("c2000;c5000;c0000;", 3, 0, 1, 2);
        order("c5000;c2000;c0000;", 3, 0, 2, 1);
        HandUnderTheChin x = Texts.told("c5000;c2000;c0000;");
        x.beside(-1);
        due("nobody goes elsewhere", x.child(1, 0), 2);
        x.change(1, 2);
        due("by the places now", x.beside(1), 1);
    }

    private static void besideRefused() {
        about("-1 (i below -1, no such place)");
        HandUnderTheChin x = new HandUnderTheChin();
        due("nobody", x.beside(-1), 0);
        due("no first", x.beside(0), -1);
        x = Texts.told(SIX);
        due("5", x.beside(5), 4);
        due("6", x.beside(6), -1);
        due("-2", x.beside(-2), -1);
        due("least", x.beside(LEAST), -1);
        due("most", x.beside(MOST), -1);
    }

    // ---- promise 16

    private static void helps(String bath, int want) {
        due("helps in " + bath, Texts.told(bath).helps(), want);
    }

    private static void helps() {
        about("HELPS: whom the TRUST of others gains most by, LET now, if READY (PASSES times those beside)");
        helps(SIX, 3);
        helps(FIVE_SHY + "c5020;", 5);
        helps("c5020;" + FIVE_SHY, 0);
        helps("c5020;c4020;c0020;", 1);
        helps("c5020;c0020;c0020;", 0);
        helps("c0020;c0020;c5020;", 2);
        helps("c5001;c4020;c0020;", 1);
        helps("c5020;c4020;c5020;s17;", 0);
        about("of several the least");
        helps(Texts.repeat("c0020;", 6), 1);
        helps("c0020;c0020;", 0);
        helps("c4020;c0020;c4020;", 0);
        helps("c4001;c0020;c4020;", 1);
        helps(Texts.repeat("c2020;", 6), 0);
    }

    private static void helpsNone() {
        about("Promise 16: HELPS; -4");
        due("nobody", new HandUnderTheChin().helps(), -4);
        helps("c0020;s07;", -4);
        helps("c0003;c5001;", -4);
        helps("c0004;", 0);
        helps("c2007;c2008;", 1);
    }

    // ---- promise 17

    private static void cost(String bath, int want) {
        HandUnderTheChin x = Texts.told(bath);
        String before = Texts.state(x);
        due("costs in " + bath, x.costs(0), want);
        CHECK.same("nothing changed", Texts.state(x), before);
    }

    private static void costs() {
        about("by how many MINUTES later one SWIMS ALONE for it (TRUST FRIGHT less first");
        // NEEDS 10, 2 by each HELD: 4 and 10 .. 3 and 1.
        cost("c0004;s06;", 2);
        cost("c0003;s06;", 1);
        cost("c0020;s06;", 0);
        cost("c0012;s06;", 1);
        cost("c4000;s06;", 0);
        cost("c4020;", 0);
        // HELD 17, 20, LET; from 11 one HELD more. A finger brings 2 alone.
        cost("c2014;s06;", 1);
        // FRIGHT 14: 20 and LET; 6, 12, 18, 20, LET.
        cost("c6920;s06;", 3);
        about("TRUST is 0 at least");
        cost("c0002;s06;", 1);
        cost("c0001;s06;", 0);
        cost("c0000;s06;", 0);
        cost("c6900;s06;", 0);
        cost("c0020;s07;", 0);
        HandUnderTheChin x = Texts.told(Texts.repeat("c0000;", 5) + "c0004;s56;");
        due("the last of six", x.costs(5), 2);
        for (int wild : new int[] {-1, 6, LEAST, MOST}) {
            due("costs(" + wild + ")", x.costs(wild), -1);
        }
        due("of nobody", new HandUnderTheChin().costs(0), -1);
    }

    // ---- promise 18

    /** NEEDS are 20. */
    private static void band(int trust, int a, int v, int want) {
        HandUnderTheChin x = Texts.told("c2000;s06;");
        x.feels(0, 0, trust);
        due("trust " + trust + " air " + a + " less " + v, x.bands(0, a, v), want);
        due("no week goes by", x.child(0, 2), trust);
    }

    private static void bandsByWeeks() {
        about("the week (0 ..) in which TRUST, 1 more each week (20 at most), first is less than these");
        // With 2 a week NEEDS grow by 2, TRUST by 1; week 4 has air 1, week 5 none.
        int[] weeks = {0, 1, 2, 3, 4, -4};
        for (int trust = 10; trust <= 15; trust++) {
            band(trust, 9, 2, weeks[trust - 10]);
        }
        band(16, 9, 3, 3);
        band(17, 9, 3, -4);
        band(10, 9, 1, 0);
        band(11, 9, 1, -4);
        band(20, 9, 9, -4);
        band(19, 9, 9, -4);
        band(18, 9, 9, 1);
        about("-4 never till air is 0 (that week, too)");
        band(19, 0, 1, 0);
        band(20, 0, 1, -4);
        band(0, 0, 9, 0);
        band(18, 1, 1, 0);
        band(19, 1, 1, -4);
        band(18, 2, 2, 1);
        band(17, 3, 2, 1);
        band(17, 4, 2, 2);
        band(18, 4, 3, -4);
    }

    private static void bandsEdges() {
        about("NEEDS are as many less as there is air (0 at least)");
        // All the air that is left goes out: none is owed.
        HandUnderTheChin x = Texts.told("c0003;");
        due("air 1 less 9 is 0", x.bands(0, 1, 9), -4);
        due("air 9 is more than NEEDS", Texts.told("c0000;").bands(0, 9, 9), 1);
        due("0 by 0", Texts.told("c0000;").bands(0, 4, 1), -4);
        due("0 by 1", Texts.told("c0000;").bands(0, 3, 1), 0);
        due("a diver needs 1", Texts.told("c7000;").bands(0, 0, 1), 0);
        due("a diver held up by 1", Texts.told("c7000;").bands(0, 1, 1), -4);
        due("the last of six", Texts.told(FIVE_SHY + "c0003;").bands(5, 0, 1), 0);
    }

    private static void bandsRefused() {
        about("Promise 18: BANDS; -4. -1, -3 one SWIMS");
        HandUnderTheChin x = Texts.told("c0020;c0000;s17;");
        due("swims", x.bands(1, 0, 1), -3);
        due("swims, with all air", x.bands(1, 9, 9), -3);
        for (int c = 0; c <= 1; c++) {
            for (int wild : new int[] {-1, 10, LEAST, MOST}) {
                due("air " + wild, x.bands(c, wild, 1), -1);
                due("out " + wild, x.bands(c, 1, wild), -1);
            }
            due("out 0", x.bands(c, 1, 0), -1);
            due("air 0", x.bands(c, 0, 9), c == 0 ? -4 : -3);
        }
        for (int wild : new int[] {-1, 2, LEAST, MOST}) {
            due("one " + wild, x.bands(wild, 1, 1), -1);
        }
    }

    // ---- promise 19

    private static void part(HandUnderTheChin x, int n, int k, int t, long above, long below) {
        String call = "frights(0, " + n + ", " + k + ", " + t + ", ";
        due(call + "0)", x.frights(0, n, k, t, 0), above);
        due(call + "1)", x.frights(0, n, k, t, 1), below);
    }

    private static void fraction() {
        about("a fraction in least terms");
        HandUnderTheChin x = Texts.told("c0006;");
        // READY with 6, not with 3: 12 of 16.
        part(x, 2, 1, 4, 3, 4);
        part(x, 1, 1, 2, 1, 2);
        part(x, 1, 1, 20, 19, 20);
        part(x, 1, 1, 3, 2, 3);
        part(x, 0, 0, 2, 1, 1);
        part(x, 0, 1, 2, 0, 1);
        part(x, 8, 0, 20, 1, 1);
        part(x, 1, 2, 20, 0, 1);
        // READY with 7 and 4: 1 - 1/16 of 1/4 each is 15 by 16.
        x.feels(0, 0, 7);
        part(x, 2, 1, 4, 15, 16);
    }

    private static void frightsEdges() {
        about("LET n times (0 .. 8) one behind the other (ALONE, who is not READY SWALLOWS), has gained k STEPS (0 .. 7) or more");
        HandUnderTheChin x = Texts.told("c0020;");
        part(x, 7, 7, 2, 1, 128);
        part(x, 8, 7, 2, 9, 256);
        part(x, 6, 7, 2, 0, 1);
        // 19 by 20, eight times, less all that 8 LETS of a SHY one lose: NEEDS 20 at STEP 6, one fright, and none.
        HandUnderTheChin shy = Texts.told("c2020;");
        part(shy, 7, 7, 2, 1, 128);
        part(shy, 8, 7, 2, 1, 128);
        HandUnderTheChin still = Texts.told("c0003;");
        part(still, 8, 1, 20, 0, 1);
        part(still, 8, 0, 20, 1, 1);
        HandUnderTheChin pusher = Texts.told("c4020;s06;");
        // Who swims is LET no more: 1 less 1 by 2 to the 8th.
        part(pusher, 8, 1, 2, 255, 256);
        part(pusher, 8, 2, 2, 0, 1);
        pusher.feels(0, 1, 7);
        part(pusher, 8, 0, 2, 1, 1);
        part(pusher, 8, 1, 2, 0, 1);
        part(pusher, 0, 0, 20, 1, 1);
        HandUnderTheChin six = Texts.told(FIVE_SHY + "c0003;");
        due("the last of six", six.frights(5, 1, 1, 2, 0), 0);
        due("nothing changed", six.count(3), 0);
    }

    private static void frightsRefused() {
        about("Promise 19: Refused as told: -1");
        HandUnderTheChin x = Texts.told("c0020;");
        long[] bad = {
            x.frights(1, 1, 1, 2, 0), x.frights(-1, 1, 1, 2, 0), x.frights(MOST, 1, 1, 2, 0), x.frights(LEAST, 1, 1, 2, 0),
            x.frights(0, 9, 1, 2, 0), x.frights(0, -1, 1, 2, 0), x.frights(0, MOST, 1, 2, 0), x.frights(0, LEAST, 1, 2, 0),
            x.frights(0, 1, 8, 2, 0), x.frights(0, 1, -1, 2, 0), x.frights(0, 1, MOST, 2, 0), x.frights(0, 1, LEAST, 2, 0),
            x.frights(0, 1, 1, 1, 0), x.frights(0, 1, 1, 0, 0), x.frights(0, 1, 1, -1, 0), x.frights(0, 1, 1, 21, 0),
            x.frights(0, 1, 1, MOST, 0), x.frights(0, 1, 1, LEAST, 0), x.frights(0, 1, 1, 2, 2), x.frights(0, 1, 1, 2, -1),
            x.frights(0, 1, 1, 2, MOST), x.frights(0, 1, 1, 2, LEAST), new HandUnderTheChin().frights(0, 0, 0, 2, 0),
        };
        for (int i = 0; i < bad.length; i++) {
            due("refused " + i, bad[i], REFUSED);
        }
        due("not refused at the edges", x.frights(0, 8, 7, 20, 1), 25600000000L);
    }

    // ---- promise 20

    private static void was(HandUnderTheChin x, int v, int f, int bits) {
        due("was from " + v + " with figure " + f, x.was(1, v, f, 0), bits);
        due("how many", x.was(1, v, f, 1), Integer.bitCount(bits));
    }

    private static void wasEdges() {
        about("a ROW tells TRUST of one HELD 0, 1, .. times from TRUST v");
        HandUnderTheChin x = new HandUnderTheChin();
        for (int sort = 0; sort <= 2; sort++) {
            x.row(1, sort, 0);
            was(x, 0, 0, 255);
            was(x, 20, 9, 255);
            Texts.numbers(x, 1, sort, 20);
            was(x, 20, 0, 255);
            was(x, 19, 0, 0);
            Texts.numbers(x, 1, sort, 20, 20, 20);
            was(x, 20, 9, 255);
            Texts.numbers(x, 1, sort, 20, 21);
            was(x, 20, 9, 0);
            Texts.numbers(x, 1, sort, 19, 20);
            was(x, 19, 9, 255);
            Texts.numbers(x, 1, sort, 18, 20);
            was(x, 18, 0, 1 + 4 + 8 + 64);
            Texts.numbers(x, 1, sort, 0, 1);
            was(x, 0, 0, 2 + 16 + 32 + 128);
            Texts.numbers(x, 1, sort, -1);
            was(x, 0, 0, 0);
        }
        x.row(1, 0, 100);
        for (int i = 0; i < 100; i++) {
            x.put(1, i, Math.min(20, i));
        }
        was(x, 0, 5, 2 + 16 + 32 + 128);
        x.put(1, 99, 19);
        was(x, 0, 5, 0);
        // Only JUDGED skips the least number of the SORT.
        Texts.numbers(x, 1, 0, 5, -128);
        was(x, 5, 0, 0);
    }

    private static void wasKinds() {
        about("KINDS (bits) with FIGURE f by which it is so; how many");
        HandUnderTheChin x = new HandUnderTheChin();
        int[] clingers = {3, 3, 3, 4, 4, 4, 5, 5, 5, 6};
        for (int f = 0; f <= 9; f++) {
            int clinger = clingers[f];
            for (int holds = 0; holds <= 7; holds++) {
                Texts.numbers(x, 1, 2, 1, 1 + holds, 1 + 2 * holds);
                int bits = holds == 1 ? 2 + 16 + 32 + 128 : holds == 2 ? 1 : holds == 3 ? 4 + 8 : 0;
                was(x, 1, f, bits + (holds == clinger ? 64 : 0));
            }
        }
        due("no bath is wanted", x.count(0), 0);
    }

    private static void wasRefused() {
        about("Promise 20: -1, -11, -12 (no ROW)");
        HandUnderTheChin x = new HandUnderTheChin();
        x.row(1, 0, 0);
        x.keep(2, 1, 0, 0);
        for (int wild : new int[] {-1, 21, LEAST, MOST}) {
            due("v " + wild, x.was(1, wild, 0, 0), -1);
            due("v " + wild + " by nothing", x.was(3, wild, 0, 0), -1);
            due("v " + wild + " by a kind", x.was(2, wild, 0, 0), -1);
        }
        for (int wild : new int[] {-1, 10, LEAST, MOST}) {
            due("f " + wild, x.was(1, 0, wild, 0), -1);
            due("what " + wild, x.was(1, 0, 0, wild), -1);
            due("shelf " + wild, x.was(wild, 0, 0, 0), -1);
        }
        due("what 2", x.was(3, 0, 0, 2), -1);
        due("shelf 8", x.was(8, 0, 0, 0), -1);
        due("nothing", x.was(3, 20, 9, 1), -11);
        due("a kind", x.was(2, 20, 9, 1), -12);
    }

    // ---- promise 21

    private static void dare(String bath, int want) {
        HandUnderTheChin x = Texts.told(bath);
        due("dare in " + bath, x.dare(0, 1), want);
        due("the other way round", x.dare(1, 0), want % 10 * 10 + want / 10);
    }

    private static void dare() {
        about("who jumps gains 2 with the other, 1 alone, less FRIGHT, if neither READY nor SWIMMING");
        dare("c0000;c0000;", 0);
        dare("c4000;c4000;", 11);
        dare("c0004;c0004;", 11);
        dare("c0003;c0004;", 1);
        dare("c2000;c2000;s07;", 10);
        dare("c2007;c2008;", 1);
        about("who does not, loses 1, if the other jumps");
        // FRIGHT 2: 2 - 2 is more than -1; FRIGHT 3: 2 - 3 is not; FRIGHT 4: less.
        dare("c1000;c4000;", 11);
        dare("c0000;c4000;", 1);
        dare("c2200;c4000;", 1);
        about("the first pair (10 the one's and the other's) by which neither gains by another choice alone");
        dare("c1000;c1000;", 0);
        dare("c7000;c5000;", 0);
        about("Promise 21: -1 (one twice)");
        HandUnderTheChin x = Texts.told(SIX);
        for (int c = 0; c < 6; c++) {
            due("one twice", x.dare(c, c), -1);
        }
        for (int wild : new int[] {-1, 6, LEAST, MOST}) {
            due("dare(0, " + wild + ")", x.dare(0, wild), -1);
            due("dare(" + wild + ", 0)", x.dare(wild, 0), -1);
        }
        due("the first and the last", x.dare(0, 5), 11);
        due("nothing changed", x.count(1), 0);
    }

    // ---- promises 22 to 26

    private static void group(HandUnderTheChin x, int h, int bits) {
        due("group of " + h, x.group(h, 0), bits);
        due("how many in " + h, x.group(h, 1), Integer.bitCount(bits));
    }

    private static void group() {
        about("of all sets of CHILDREN (bits) whose HOLDS together are h (0 .. 30) or less the one with most, of several the least bits; how many");
        group(new HandUnderTheChin(), 0, 0);
        group(new HandUnderTheChin(), 30, 0);
        HandUnderTheChin x = Texts.told(SIX);
        group(x, 0, 0);
        group(x, 1, 2);
        group(x, 2, 2 + 8);
        group(x, 3, 2 + 8 + 32);
        group(x, 4, 1 + 2 + 8);
        group(x, 5, 1 + 2 + 8 + 32);
        group(x, 6, 1 + 2 + 8 + 32);
        group(x, 7, 1 + 2 + 4 + 8);
        group(x, 8, 1 + 2 + 4 + 8 + 32);
        group(x, 12, 1 + 2 + 4 + 8 + 32);
        group(x, 13, 31);
        group(x, 14, 63);
        group(x, 30, 63);
        x = Texts.told(Texts.repeat("c6900;", 6));
        group(x, 5, 0);
        group(x, 6, 1);
        group(x, 29, 15);
        group(x, 30, 31);
        group(Texts.told("c0000;c6900;"), 2, 1);
        group(Texts.told("c0000;c0000;"), 3, 1);
        about("Promise 22: -1");
        for (int wild : new int[] {-1, 31, LEAST, MOST}) {
            due("group(" + wild + ", 0)", x.group(wild, 0), -1);
            due("group(" + wild + ", 1)", x.group(wild, 1), -1);
        }
        for (int wild : new int[] {-1, 2, LEAST, MOST}) {
            due("group(0, " + wild + ")", x.group(0, wild), -1);
        }
    }

    private static void forget() {
        about("the fewest weeks (0 .. 9) of a BREAK behind which nobody is READY; -4");
        due("nobody", new HandUnderTheChin().forget(), 0);
        due("six", Texts.told(SIX).forget(), 6);
        due("all swim", Texts.told("c0020;s07;").forget(), 0);
        for (int more = 0; more <= 9; more++) {
            HandUnderTheChin x = Texts.told("c0000;");
            x.feels(0, 0, 3 + more);
            due(more + " more than too little", x.forget(), more);
        }
        due("10 more", Texts.told("c0013;").forget(), -4);
        // 10 NEEDS at STEP 6, 9 behind 3 weeks, 8 behind 6, 7 behind 9.
        due("the step goes, too", Texts.told("c0012;s06;").forget(), 4);
        due("9 weeks hold 16", Texts.told("c0016;s06;").forget(), -4);
        due("9 weeks do not hold 15", Texts.told("c0015;s06;").forget(), 8);
        due("the last of six", Texts.told(Texts.repeat("c2000;", 5) + "c0004;").forget(), 1);
        HandUnderTheChin x = Texts.told("c0012;c0000;s06;m13;");
        String before = Texts.state(x);
        x.forget();
        CHECK.same("no break by it", Texts.state(x), before);
    }

    private static void coldest() {
        about("if COLD of all others who do not SWIM were n (0 .. 60) more (20 at most): how many of these would be COLDER than they BEAR");
        HandUnderTheChin x = Texts.told(SIX);
        int[] due = {0, 0, 0, 0, 0, 2, 2, 2, 3, 4};
        for (int n = 0; n <= 9; n++) {
            // BEARS of the others than 0: 8, 4, 7, 4, 20.
            due("0 and " + n + " more", x.coldest(0, n), due[n]);
        }
        due("20 more", x.coldest(0, 20), 4);
        due("21 more, 20 at most", x.coldest(0, 21), 4);
        due("60 more", x.coldest(0, 60), 4);
        due("with 0 for the diver", x.coldest(5, 60), 5);
        due("5 is not more than 5", x.coldest(5, 5), 2);
        due("6 is", x.coldest(5, 6), 3);
        Texts.tell(x, "s07;s27;m13;m13;m13;");
        due("by what is cold, not who swims", x.coldest(5, 2), 1);
        due("by what is cold, not who swims", x.coldest(5, 1), 0);
        due("one by itself", Texts.told("c0000;").coldest(0, 60), 0);
        HandUnderTheChin bold = Texts.told("c0000;c1900;");
        due("14 is borne", bold.coldest(0, 14), 0);
        due("15 is not", bold.coldest(0, 15), 1);
        HandUnderTheChin diver = Texts.told("c0000;c7000;");
        for (int i = 0; i < 20; i++) {
            diver.minute(0, 3);
        }
        due("20 at most", diver.coldest(0, 60), 0);
        about("Promise 24: COLDEST. -1");
        for (int wild : new int[] {-1, 61, LEAST, MOST}) {
            due("coldest(0, " + wild + ")", x.coldest(0, wild), -1);
        }
        for (int wild : new int[] {-1, 6, LEAST, MOST}) {
            due("coldest(" + wild + ", 0)", x.coldest(wild, 0), -1);
        }
    }

    private static void last(String bath, int want) {
        due("last in " + bath, Texts.told(bath).last(), want);
    }

    private static void last() {
        about("LAST: the one with the least STEP, of several the least TRUST, then the least; -4");
        due("nobody", new HandUnderTheChin().last(), -4);
        last("c0020;s07;", 0);
        last(SIX, 5);
        last(Texts.repeat("c0000;", 6), 0);
        last("c0003;c0003;", 0);
        last("c0003;c0004;", 0);
        last("c0004;c0003;", 1);
        last("c0004;c0003;c0004;c0003;", 1);
        last("c0000;c0020;s01;", 1);
        last("c0000;c0020;s06;s17;", 0);
        last("c0000;c0000;c0020;s01;s11;", 2);
        last("c0005;c0004;s07;s17;", 1);
    }

    private static void mean(String bath, int above, int below) {
        HandUnderTheChin x = Texts.told(bath);
        due("mean above of " + bath, x.mean(0), above);
        due("mean below of " + bath, x.mean(1), below);
    }

    private static void mean() {
        about("MEAN STEP: of all: a fraction in least terms (0 by 1 of nobody)");
        due("nobody above", new HandUnderTheChin().mean(0), 0);
        due("nobody below", new HandUnderTheChin().mean(1), 1);
        String six = Texts.repeat("c0000;", 6);
        mean(six, 0, 1);
        mean(six + "s51;", 1, 6);
        mean(six + "s52;", 1, 3);
        mean(six + "s54;", 2, 3);
        mean(six + "s57;s04;s14;", 5, 2);
        mean(six + "s07;s17;s27;s37;s47;s57;", 7, 1);
        mean("c0000;s07;", 7, 1);
        mean("c0000;c0000;s07;", 7, 2);
        about("Promise 26: Refused as told: -1");
        for (int wild : new int[] {-1, 2, LEAST, MOST}) {
            due("mean(" + wild + ")", Texts.told(six).mean(wild), REFUSED);
            due("mean(" + wild + ") of nobody", new HandUnderTheChin().mean(wild), REFUSED);
        }
    }
}
