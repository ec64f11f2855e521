/** The edges of promises 27 to 32, each with the words that name it. */
public final class ToldEdgesTest {
    private static final int LEAST = Integer.MIN_VALUE;
    private static final int MOST = Integer.MAX_VALUE;
    private static final int[] LEAST_OF = {-128, -32768, LEAST};
    private static final Check CHECK = new Check("edges of told minutes");

    public static void main(String[] args) {
        forgedPairs();
        forgedRows();
        forgedRefused();
        judgedRows();
        judgedByTurns();
        judgedSkips();
        judgedRefused();
        weeksDrawn();
        weeksEachFromNow();
        weeksOfWhoSwims();
        weeksRefused();
        minuteNoMatter();
        imageAndRestore();
        imageIsACopy();
        imageOfSix();
        count();
        CHECK.end();
    }

    private static void about(String words) {
        CHECK.about(words);
    }

    private static void due(String call, long got, long want) {
        CHECK.due(call, got, want);
    }

    private static void state(String call, HandUnderTheChin x, String want) {
        CHECK.same(call, Texts.state(x), want);
    }

    // ---- promise 27

    private static void forged(String bath, int want, int... pairs) {
        HandUnderTheChin x = bath.isEmpty() ? new HandUnderTheChin() : Texts.told(bath);
        String before = Texts.state(x);
        for (int sort = 0; sort <= 2; sort++) {
            Texts.numbers(x, 7, sort, pairs);
            due("forged by " + java.util.Arrays.toString(pairs) + " of sort " + sort, x.forged(7), want);
        }
        state("nothing changed", x, before);
    }

    private static void forgedPairs() {
        about("a ROW of pairs (whom, the WAY) from now: the first pair that can not be");
        for (int way = 0; way <= 3; way++) {
            forged("c0000;", -4, 0, way);
            forged("c0000;s07;", 0, 0, way);
        }
        forged("c0000;", 0, 0, 4);
        forged("c0000;", 0, 0, -1);
        forged("c0000;", 0, 1, 0);
        forged("c0000;", 0, -1, 0);
        forged(Texts.repeat("c0000;", 6), -4, 5, 0, 0, 0);
        forged(Texts.repeat("c0000;", 6), 1, 5, 0, 6, 0);
        forged("", 0, 0, 0);
        forged("c0000;", 1, 0, 0, 1, 0, 2, 0);
        forged("c0000;", 2, 0, 0, 0, 1, 0, 4, 0, 5);
        // The pairs ahead are made: it swims by the first, by the second not.
        forged("c0010;s06;", -4, 0, 2);
        forged("c0010;s06;", 1, 0, 2, 0, 2);
        forged("c0009;s06;", -4, 0, 2, 0, 2);
        // TRUST 20 is SHOWN nothing by one of a greater STEP, but 18 is: it swims by the LET then.
        forged("c2018;c0000;s06;s17;", 2, 0, 3, 0, 2, 0, 2);
        // The laugh of 1 makes 0 swim.
        forged("c0007;c5020;s06;", 2, 1, 2, 0, 2, 0, 0);
        forged("c0006;c5020;s06;", -4, 1, 2, 0, 2, 0, 0);
    }

    private static void forgedRows() {
        about("-4; .. -13 (unwhole)");
        forged("", -4);
        forged("c0000;", -4);
        forged("c0000;", -13, 0);
        forged("c0000;", -13, 9, 9, 9);
        HandUnderTheChin x = Texts.told("c0000;");
        x.row(7, 0, 99);
        due("99", x.forged(7), -13);
        x.row(7, 0, 100);
        due("50 pairs", x.forged(7), -4);
        x.put(7, 99, 4);
        due("the last way", x.forged(7), 49);
        x.put(7, 98, 1);
        due("the last one", x.forged(7), 49);
        x.put(7, 97, 4);
        due("the first of them", x.forged(7), 48);
        x.put(7, 0, -128);
        due("the very first", x.forged(7), 0);
        // What is put in keeps its lowest bits: 256 is 0 as a byte, and none as a short.
        Texts.numbers(x, 7, 0, 256, 256);
        due("bytes", x.forged(7), -4);
        Texts.numbers(x, 7, 1, 256, 256);
        due("shorts", x.forged(7), 0);
    }

    private static void forgedRefused() {
        about("Promise 27: -1, -11, -12 (no ROW)");
        HandUnderTheChin x = new HandUnderTheChin();
        for (int wild : new int[] {-1, 8, LEAST, MOST}) {
            due("forged(" + wild + ")", x.forged(wild), -1);
        }
        due("nothing", x.forged(0), -11);
        x.keep(0, 1, 0, 0);
        due("a kind", x.forged(0), -12);
    }

    // ---- promise 28

    private static void judged(HandUnderTheChin x, int c, int... trusts) {
        String before = Texts.state(x);
        Texts.numbers(x, 7, 2, trusts);
        due("judged " + c, x.judge(7, c), -4);
        for (int i = trusts.length - 1; i >= 0; i--) {
            // From the last to the first, so that there are several from then on.
            x.put(7, i, trusts[i] + 1);
            due("too much at " + i, x.judge(7, c), i);
            x.put(7, i, trusts[i] - 1);
            due("too little at " + i, x.judge(7, c), i);
        }
        state("nothing changed", x, before);
    }

    private static void judgedRows() {
        about("a ROW tells TRUST of one behind 0, 1, .. MINUTES of BY TURNS: the first that is not so");
        HandUnderTheChin x = Texts.told("c0020;s06;");
        for (int sort = 0; sort <= 2; sort++) {
            x.row(7, sort, 0);
            due("no element", x.judge(7, 0), -4);
            x.row(7, sort, 1);
            due("not 0", x.judge(7, 0), 0);
            x.put(7, 0, 20);
            due("20", x.judge(7, 0), -4);
        }
        x.row(7, 2, 100);
        for (int i = 0; i < 100; i++) {
            due("0 at " + i, x.judge(7, 0), i);
            x.put(7, i, 20);
        }
        due("100, though it swims behind 1", x.judge(7, 0), -4);
        Texts.numbers(x, 7, 2, 20 + 256);
        due("an int is not cut", x.judge(7, 0), 0);
        Texts.numbers(x, 7, 0, 20 + 256);
        due("a byte is", x.judge(7, 0), -4);
    }

    private static void judgedByTurns() {
        about("BY TURNS (MINUTE no matter): each MINUTE the next one (by numbers from 0, round");
        // HELD 3 more each sixth MINUTE; behind 5 of the others COLD 5 is more than 4: 1 less.
        HandUnderTheChin x = Texts.told(Texts.repeat("c2000;", 6));
        judged(x, 0, 0, 3, 3, 3, 3, 3, 2, 5, 5, 5, 5, 5, 4, 7);
        judged(x, 5, 0, 0, 0, 0, 0, 0, 3, 3, 3, 3, 3, 2, 5);
        // 0 swims behind 1; its laugh comes to 1, who is alone then: LET, LET, HELD, LET, HELD, LET, HELD.
        x = Texts.told("c5020;c1000;s06;");
        judged(x, 1, 0, 3, 3, 3, 4, 4, 5, 5, 6);
        judged(x, 0, 20, 20, 20, 20, 20, 20);
        // 1 in the middle swims and is passed over: 0, 2, 0, 2.
        x = Texts.told("c0000;c0009;c0000;s17;");
        judged(x, 0, 0, 2, 2, 4, 4, 4);
        judged(x, 1, 9, 9, 9, 9, 9, 10);
        judged(x, 2, 0, 0, 2, 2, 4, 4);
    }

    private static void judgedSkips() {
        about("(the least number of the SORT is skipped)");
        HandUnderTheChin x = Texts.told("c0000;");
        for (int sort = 0; sort <= 2; sort++) {
            int least = LEAST_OF[sort];
            Texts.numbers(x, 7, sort, least, least, least);
            due("all are skipped", x.judge(7, 0), -4);
            Texts.numbers(x, 7, sort, least, 2, least);
            due("the first and the last", x.judge(7, 0), -4);
            Texts.numbers(x, 7, sort, least, 3, least);
            due("the one between", x.judge(7, 0), 1);
            Texts.numbers(x, 7, sort, 0, least, 4, 5);
            due("the places go on", x.judge(7, 0), 3);
            Texts.numbers(x, 7, sort, least + 1);
            due("one more is not skipped", x.judge(7, 0), 0);
            for (int other = 0; other < sort; other++) {
                Texts.numbers(x, 7, sort, LEAST_OF[other]);
                due("the least of another sort is not", x.judge(7, 0), 0);
            }
        }
        Texts.numbers(x, 7, 0, 128);
        due("128 is the least byte", x.judge(7, 0), -4);
    }

    private static void judgedRefused() {
        about("Promise 28: -1, -11, -12");
        HandUnderTheChin x = Texts.told("c0000;c0000;");
        x.keep(6, 1, 0, 0);
        for (int wild : new int[] {-1, 8, LEAST, MOST}) {
            due("shelf " + wild, x.judge(wild, 0), -1);
        }
        for (int wild : new int[] {-1, 2, LEAST, MOST}) {
            due("one " + wild, x.judge(0, wild), -1);
            due("one " + wild + " by nothing", x.judge(7, wild), -1);
            due("one " + wild + " by a kind", x.judge(6, wild), -1);
        }
        due("nothing", x.judge(7, 1), -11);
        due("a kind", x.judge(6, 1), -12);
        due("nobody", new HandUnderTheChin().judge(0, 0), -1);
    }

    // ---- promise 29

    private static void weeksDrawn() {
        about("z becomes z times 1103515245 plus 12345 (an int); (z without its sign's bit over 65536, cut) modulo n");
        int[] seeds = {0, 1, -1, MOST, LEAST, 12345};
        // Worked out beside the class: a PUSHER with TRUST 20 steps by each finger and LET, till it swims.
        int[][] steps = {{6, 10, 94}, {3, 9, 107}, {7, 11, 89}, {7, 11, 89}, {6, 10, 94}, {4, 8, 103}};
        int[][] shySteps = {{0, 2, 21}, {0, 0, 11}, {0, 0, 17}, {0, 0, 17}, {0, 2, 21}, {0, 2, 17}};
        int[][] shySwallows = {{2, 2, 35}, {3, 6, 51}, {5, 7, 32}, {5, 7, 32}, {2, 2, 35}, {2, 3, 46}};
        int[] weeks = {1, 2, 20};
        HandUnderTheChin pusher = Texts.told("c4020;");
        HandUnderTheChin shy = Texts.told("c2000;");
        for (int s = 0; s < seeds.length; s++) {
            for (int w = 0; w < weeks.length; w++) {
                String how = " in " + weeks[w] + " weeks with seed " + seeds[s];
                due("steps" + how, pusher.weeks(weeks[w], seeds[s], 0), steps[s][w]);
                due("no swallows" + how, pusher.weeks(weeks[w], seeds[s], 1), 0);
                due("steps of a shy one" + how, shy.weeks(weeks[w], seeds[s], 0), shySteps[s][w]);
                due("swallows of a shy one" + how, shy.weeks(weeks[w], seeds[s], 1), shySwallows[s][w]);
            }
        }
    }

    /** The sums by minute itself, drawn by longs, of a bath that is left as it was. */
    private static void weeksEachFromNow() {
        about("n times (1 .. 20), each from now, of 10 MINUTES");
        String[] baths = {
            "c0505;c1307;c2509;c5204;c6906;c7903;", "c5002;c0001;m00;m00;m00;m00;", "c0010;c0010;c0010;s06;s17;s25;",
        };
        for (String bath : baths) {
            for (int seed : new int[] {0, 7, -7, LEAST, MOST}) {
                for (int n : new int[] {1, 3, 20}) {
                    HandUnderTheChin x = Texts.told(bath);
                    String before = Texts.state(x);
                    int[] want = ToldTest.played(Texts.told(bath), n, seed);
                    due("steps", x.weeks(n, seed, 0), want[0]);
                    due("swallows", x.weeks(n, seed, 1), want[1]);
                    state("nothing changed", x, before);
                }
            }
        }
    }

    private static void weeksOfWhoSwims() {
        about("(who SWIMS: nothing)");
        HandUnderTheChin x = Texts.told("c0000;c0000;s07;s17;");
        for (int seed = -50; seed < 50; seed++) {
            due("no step", x.weeks(20, seed, 0), 0);
            due("no swallow", x.weeks(20, seed, 1), 0);
        }
    }

    private static void weeksRefused() {
        about("Promise 29: -1, -3 nobody");
        HandUnderTheChin x = Texts.told("c0000;");
        HandUnderTheChin nobody = new HandUnderTheChin();
        for (int wild : new int[] {0, -1, 21, LEAST, MOST}) {
            due("weeks " + wild, x.weeks(wild, 1, 0), -1);
            due("weeks " + wild + " of nobody", nobody.weeks(wild, 1, 0), -1);
        }
        for (int wild : new int[] {-1, 2, LEAST, MOST}) {
            due("what " + wild, x.weeks(1, 1, wild), -1);
            due("what " + wild + " of nobody", nobody.weeks(1, 1, wild), -1);
        }
        due("1 of nobody", nobody.weeks(1, 1, 0), -3);
        due("20 of nobody", nobody.weeks(20, 1, 1), -3);
    }

    private static void minuteNoMatter() {
        about("(MINUTE no matter)");
        HandUnderTheChin x = Texts.told("c4020;c4020;s17;");
        x.image();
        Texts.write(x, 0, Texts.repeat("m03;", 25));
        Texts.numbers(x, 7, 0, 0, 2, 0, 2, 0, 2, 0, 2, 0, 2, 0, 2, 0, 2, 0, 2);
        Texts.numbers(x, 6, 0, 20, 20, 20, 19);
        for (int i = 0; i <= 41; i++) {
            if (i < 40) {
                x.bath(0);
            } else {
                Texts.tell(x, Texts.repeat("m03;", 24));
            }
            due("forged", x.forged(7), 7);
            due("judged", x.judge(6, 0), 3);
            due("by turns", x.byTurns(7, 0), 2);
            due("all swim", x.allSwim(), 7);
            due("weeks", x.weeks(20, 5, 0), ToldTest.played(Texts.told("c4020;c4020;s17;"), 20, 5)[0]);
        }
        due("it was 999", x.count(1), 999);
        due("the image is of 0", x.restore(), 0);
    }

    // ---- promises 30 and 31

    private static void imageAndRestore() {
        about("THE IMAGE is taken: MINUTE");
        HandUnderTheChin x = new HandUnderTheChin();
        due("none yet", x.restore(), -3);
        due("none by that either", x.restore(), -3);
        due("of nobody", x.image(), 0);
        Texts.tell(x, "c0505;c7307;m10;m10;m10;");
        due("of 3", x.image(), 3);
        x.minute(1, 0);
        due("of 4", x.image(), 4);
        about("RESTORED all is as it was then");
        String then = Texts.state(x);
        x.rest(9);
        x.change(0, 1);
        x.feels(0, 1, 7);
        Texts.tell(x, "c6920;c6920;c6920;c6920;m50;s57;");
        due("restored", x.restore(), 4);
        state("as it was then", x, then);
        due("restored again", x.restore(), 4);
        state("as it was then", x, then);
    }

    private static void imageIsACopy() {
        about("all that there is, but SHELVES (and THE IMAGE)");
        HandUnderTheChin x = Texts.told("c0505;c7307;m10;");
        x.image();
        String then = Texts.state(x);
        x.change(0, 1);
        x.minute(0, 0);
        x.feels(1, 0, 20);
        x.restore();
        state("changed behind the image", x, then);
        x.change(0, 1);
        x.minute(0, 0);
        x.feels(1, 1, 7);
        x.rest(3);
        x.restore();
        state("changed behind the restoring", x, then);
        about("when THE IMAGE is RESTORED, SHELVES stay as they are");
        x.keep(1, 1, 7, 9);
        Texts.numbers(x, 2, 1, 77);
        x.keep(0, 0, 0, 0);
        x.restore();
        due("a kind", x.cost(1), 7);
        CHECK.same("a row", Texts.element(x, 2, 0), "77");
        due("nothing", x.cost(0), -11);
        x.comes(1, 5);
        x.keep(1, 1, 0, 0);
        x.image();
        x.keep(1, 1, 6, 0);
        x.restore();
        due("who came is as it came", x.child(2, 0), 7);
    }

    private static void imageOfSix() {
        about("RESTORED all is as it was then");
        HandUnderTheChin x = new HandUnderTheChin();
        x.image();
        String six = "c0505;c1307;c2509;c5204;c6906;c7903;";
        Texts.tell(x, six + "m00;m00;s57;");
        String then = Texts.state(x);
        due("nobody", x.restore(), 0);
        state("nobody", x, "0 0 0 0 0 0 ");
        Texts.tell(x, "c7020;");
        state("one anew", x, "1 0 20 0 0 0 |7 0 20 0 0 ");
        x.restore();
        Texts.tell(x, six + "m00;m00;s57;");
        due("of six", x.image(), 2);
        Texts.tell(x, "x05;x14;x23;b9;");
        due("six", x.restore(), 2);
        state("six", x, then);
    }

    // ---- promise 32

    private static void count() {
        about("0 CHILDREN, 1 MINUTE, 2 all TRUST, 3 all STEPS, 4 all COLD, 5 who SWIM (bits); -1 for others");
        HandUnderTheChin x = Texts.told(Texts.repeat("c7020;", 6));
        for (int i = 0; i < 21; i++) {
            x.minute(0, 0);
        }
        int[] due = {6, 21, 120, 0, 100, 0};
        Texts.tell(x, "s07;s17;s27;s37;s47;s57;");
        due[3] = 42;
        due[5] = 63;
        for (int what = 0; what <= 5; what++) {
            due("what " + what, x.count(what), due[what]);
            due("what " + what + " of nobody", new HandUnderTheChin().count(what), 0);
        }
        for (int c = 0; c < 6; c++) {
            x.feels(c, 1, 6);
            due("who swim but " + c, x.count(5), 63 & ~(1 << c));
            x.feels(c, 1, 7);
        }
        for (int wild : new int[] {-1, 6, LEAST, MOST}) {
            due("what " + wild, x.count(wild), -1);
            due("what " + wild + " of nobody", new HandUnderTheChin().count(wild), -1);
        }
    }
}
