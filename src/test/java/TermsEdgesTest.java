/** The edges that the words under "Terms" name, each with the words that name it. */
public final class TermsEdgesTest {
    private static final Check CHECK = new Check("edges of the terms");
    private static final String SIX_SHY = Texts.repeat("c2000;", 6);

    /** By KIND, then FIGURE 0 .. 9. */
    private static final int[][] HOLDS = {
        same(2), same(1), same(3), same(3), same(1), same(1), {3, 3, 3, 4, 4, 4, 5, 5, 5, 6}, same(1),
    };
    private static final int[][] FRIGHT = {
        same(3), same(2), {3, 3, 4, 4, 5, 5, 6, 6, 7, 7}, same(3),
        same(0), same(2), {6, 6, 8, 8, 10, 10, 12, 12, 14, 14}, same(2),
    };
    private static final int[] FIVE_AND_FIGURE = {5, 6, 7, 8, 9, 10, 11, 12, 13, 14};
    private static final int[][] BEARS = {
        same(5), FIVE_AND_FIGURE, same(4), same(5), FIVE_AND_FIGURE, FIVE_AND_FIGURE, same(4), same(20),
    };
    private static final int[] PASSES = {1, 1, 0, 1, 2, 3, 0, 1};

    /** By KIND with FIGURE 0, then STEP 0 .. 6. */
    private static final int[][] NEEDS = {
        {4, 5, 6, 7, 8, 9, 10}, {2, 3, 4, 5, 6, 7, 8}, {8, 10, 12, 14, 16, 18, 20}, {4, 5, 6, 7, 8, 9, 10},
        {2, 3, 4, 5, 6, 7, 8}, {2, 3, 4, 5, 6, 7, 8}, {7, 9, 11, 13, 15, 17, 19}, {1, 1, 2, 2, 3, 3, 4},
    };
    private static final int[] TWIN_NEEDS_MORE = {0, 0, 0, 0, 1, 1, 1, 1, 2, 2};

    private TermsEdgesTest() {
    }

    public static void main(String[] args) {
        sixChildren();
        noRing();
        figures();
        trust();
        step();
        coldOfDivers();
        minutes();
        kinds();
        needs();
        held();
        fingered();
        let();
        letPasses();
        swallow();
        swallowPasses();
        shown();
        shownBySix();
        othersAreColder();
        colderThanBears();
        coldComesLast();
        breakSteps();
        breakTrust();
        refusalsOfLongs();
        CHECK.end();
    }

    private static int[] same(int v) {
        int[] row = new int[10];
        java.util.Arrays.fill(row, v);
        return row;
    }

    private static void about(String words) {
        CHECK.about(words);
    }

    private static void due(String call, long got, long want) {
        CHECK.due(call, got, want);
    }

    private static void state(String call, HandUnderTheChin x, String want) {
        CHECK.same(call, Texts.state(x), want);
    }

    // ---- CHILDREN, FIGURE, TRUST, STEP, COLD, MINUTE

    private static void sixChildren() {
        about("CHILDREN 0 .. 5 as they come (6 at most");
        HandUnderTheChin x = new HandUnderTheChin();
        x.keep(1, 1, 2, 0);
        for (int c = 0; c < 6; c++) {
            due("numbers as they come", x.comes(1, 0), c);
        }
        due("a seventh by comes", x.comes(1, 0), -2);
        due("a seventh by a text", Texts.tell(x, "c0000;"), -2000);
        state("six", x, "6 0 0 0 0 0 " + Texts.repeat("|2 0 0 0 0 ", 6));
        due("six by a text", Texts.tell(new HandUnderTheChin(), SIX_SHY), 6);
        due("seven by a text", Texts.tell(new HandUnderTheChin(), SIX_SHY + "c2000;"), -2036);
        due("no number 6", x.child(6, 0), -1);
    }

    private static void noRing() {
        about("numbers beside one another stand beside one another");
        HandUnderTheChin x = Texts.told("c5020;" + Texts.repeat("c0005;", 5));
        x.minute(0, 2);
        state("beside 0 is 1 alone", x, "6 1 48 1 5 0 |5 0 20 1 0 |0 0 8 0 1 " + Texts.repeat("|0 0 5 0 1 ", 4));
        x = Texts.told(Texts.repeat("c0005;", 5) + "c5020;");
        x.minute(5, 2);
        state("beside 5 is 4 alone", x, "6 1 48 1 5 0 " + Texts.repeat("|0 0 5 0 1 ", 4) + "|0 0 8 0 1 |5 0 20 1 0 ");
        x = Texts.told(Texts.repeat("c0005;", 3) + "c5020;" + Texts.repeat("c0005;", 2));
        x.minute(3, 2);
        due("beside 3 is 2", x.child(2, 2), 8);
        due("beside 3 is 4", x.child(4, 2), 8);
        due("1 is not", x.child(1, 2), 5);
        due("5 is not", x.child(5, 2), 5);
        x = Texts.told("c5020;");
        due("one by itself", x.minute(0, 2), 20);
    }

    private static void figures() {
        about("a FIGURE (0 .. 9)");
        HandUnderTheChin x = new HandUnderTheChin();
        for (int f = 0; f <= 9; f++) {
            due("a figure on a shelf", x.keep(0, 1, 3, f), 0);
            due("a figure by a text", Texts.told("c3" + f + "00;").child(0, 1), f);
        }
        due("-1", x.keep(0, 1, 3, -1), -1);
        due("10", x.keep(0, 1, 3, 10), -1);
        x.comes(0, 0);
        due("9 came", x.child(0, 1), 9);
    }

    private static void trust() {
        about("TRUST (0 .. 20)");
        HandUnderTheChin x = new HandUnderTheChin();
        x.keep(0, 1, 0, 0);
        due("comes with 0", x.comes(0, 0), 0);
        due("comes with 20", x.comes(0, 20), 1);
        due("comes with -1", x.comes(0, -1), -1);
        due("comes with 21", x.comes(0, 21), -1);
        due("feels 20", x.feels(0, 0, 20), 0);
        due("feels 0", x.feels(1, 0, 0), 20);
        due("feels 21", x.feels(0, 0, 21), -1);
        due("feels -1", x.feels(0, 0, -1), -1);
        due("told 20 and 0", Texts.tell(x, "t120;t000;c0020;c0000;"), 4);
        due("told 21", Texts.tell(x, "t121;"), -2000);
        due("came with 21", Texts.tell(x, "c0021;"), -2000);
        state("as told", x, "4 0 40 0 0 0 |0 0 0 0 0 |0 0 20 0 0 |0 0 20 0 0 |0 0 0 0 0 ");
    }

    private static void step() {
        about("STEP (0 .. 7; 0 at first; 7 SWIMS)");
        HandUnderTheChin x = Texts.told("c0020;");
        x.keep(0, 1, 7, 9);
        x.comes(0, 20);
        due("0 at first by a text", x.child(0, 3), 0);
        due("0 at first by comes", x.child(1, 3), 0);
        for (int s = 0; s <= 7; s++) {
            due("feels " + s, x.feels(0, 1, s), Math.max(0, s - 1));
            due("told " + s, Texts.tell(x, "s1" + s + ";"), 1);
            due("as told", x.child(1, 3), s);
            due("who swims", x.count(5), s == 7 ? 3 : 0);
        }
        due("feels 8", x.feels(0, 1, 8), -1);
        due("feels -1", x.feels(0, 1, -1), -1);
        due("told 8", Texts.tell(x, "s18;"), -2000);
        due("none beyond 7", x.minute(0, 2), -3);
        due("still 7", x.child(0, 3), 7);
        x.feels(0, 1, 6);
        x.minute(0, 2);
        due("let from 6", x.count(5), 3);
        x.feels(1, 1, 6);
        x.minute(1, 1);
        due("fingered from 6", x.count(5), 3);
        due("6 does not swim", Texts.told("c0020;s06;").count(5), 0);
    }

    private static void coldOfDivers() {
        about("COLD (0 .. 20; 0 at first)");
        HandUnderTheChin x = Texts.told("c0000;c7005;");
        due("0 at first", x.count(4), 0);
        for (int i = 1; i <= 23; i++) {
            x.minute(0, 3);
            due("cold behind " + i, x.child(1, 4), Math.min(20, i));
            due("a diver never minds", x.child(1, 2), 5);
        }
        due("all cold", x.count(4), 20);
        x.rest(0);
        due("0 behind a break", x.count(4), 0);
        // Who comes where one was that the image has not is new all the same.
        HandUnderTheChin y = new HandUnderTheChin();
        y.image();
        Texts.tell(y, "c7005;c7005;s13;m00;m00;");
        y.restore();
        y.keep(0, 1, 7, 0);
        y.comes(0, 0);
        y.comes(0, 0);
        state("0 at first, late", y, "2 0 0 0 0 0 |7 0 0 0 0 |7 0 0 0 0 ");
    }

    private static void minutes() {
        about("MINUTE (0 .. 999; 0 at first)");
        HandUnderTheChin x = Texts.told("c0000;c0020;s06;");
        due("0 at first", x.count(1), 0);
        due("0 by the image", x.image(), 0);
        Texts.write(x, 0, Texts.repeat("m03;", 25));
        for (int i = 0; i < 39; i++) {
            x.bath(0);
        }
        Texts.tell(x, Texts.repeat("m03;", 23));
        due("998", x.count(1), 998);
        due("two are one too many", Texts.tell(x, "m03;m03;"), -2004);
        due("still 998", x.count(1), 998);
        due("the last by a text", Texts.tell(x, "m03;"), 1);
        due("999", x.count(1), 999);
        due("none behind it by a text", Texts.tell(x, "t000;m03;"), -2005);
        due("none behind it", x.minute(0, 3), -3);
        due("999", x.count(1), 999);
        due("other statements", Texts.tell(x, "b0;x01;x01;t000;s00;c0000;"), 6);
        due("the image", x.restore(), 0);
        due("a minute again", x.minute(1, 2), 20);
        due("1", x.count(1), 1);
    }

    // ---- KINDS

    private static void kinds() {
        for (int k = 0; k < 8; k++) {
            for (int f = 0; f <= 9; f++) {
                HandUnderTheChin x = Texts.told("c" + k + f + "00;");
                String who = " of kind " + k + " with figure " + f;
                about("KINDS: 0 CHILD; 1 BOLD under CHILD; 2 SHY under CHILD; 3 TWIN under CHILD; 4 PUSHER under BOLD; "
                    + "5 LAUGHER under BOLD; 6 CLINGER under SHY; 7 DIVER under BOLD");
                due("kind" + who, x.child(0, 0), k);
                due("figure" + who, x.child(0, 1), f);
                about("HOLDS (TRUST by being held)");
                due("holds" + who, x.child(0, 5), HOLDS[k][f]);
                due("held" + who, x.minute(0, 0), HOLDS[k][f]);
                about("FRIGHT (TRUST that a swallow takes)");
                due("fright" + who, x.child(0, 7), FRIGHT[k][f]);
                about("BEARS (COLD)");
                due("bears" + who, x.child(0, 8), BEARS[k][f]);
                about("PASSES (how much of a laugh or fright)");
                due("passes" + who, x.child(0, 9), PASSES[k]);
            }
        }
    }

    private static void needs() {
        about("NEEDS (TRUST for the STEP behind STEP s)");
        for (int k = 0; k < 8; k++) {
            for (int f = 0; f <= 9; f++) {
                HandUnderTheChin x = Texts.told("c" + k + f + "00;");
                for (int s = 0; s <= 6; s++) {
                    int want = NEEDS[k][s] + (k == 3 ? TWIN_NEEDS_MORE[f] : 0);
                    String who = " kind " + k + " figure " + f + " step " + s;
                    x.feels(0, 1, s);
                    due("needs" + who, x.child(0, 6), want);
                    x.feels(0, 0, want);
                    due("ready" + who, x.ready(), 1);
                    x.feels(0, 0, want - 1);
                    due("not ready" + who, x.ready(), 0);
                }
                x.feels(0, 1, 7);
                due("needs, swimming", x.child(0, 6), 0);
            }
        }
    }

    // ---- a MINUTE

    private static void held() {
        about("0 HELD: TRUST is HOLDS more");
        HandUnderTheChin x = Texts.told("c6900;");
        int[] due = {6, 12, 18, 20, 20};
        for (int t : due) {
            due("held", x.minute(0, 0), t);
        }
        due("no step by it", x.child(0, 3), 0);
        due("a minute each", x.count(1), 5);
        due("19 and 2 are 20", Texts.told("c0019;").minute(0, 0), 20);
        due("18 and 2 are 20", Texts.told("c0018;").minute(0, 0), 20);
    }

    private static void fingered() {
        about("1 FINGERED: TRUST is half of HOLDS (cut) and 1 more");
        int[] gains = {2, 1, 2, 2, 1, 1, 4, 1};
        for (int k = 0; k < 8; k++) {
            HandUnderTheChin x = Texts.told("c" + k + "900;s06;");
            due("kind " + k, x.minute(0, 1), gains[k]);
        }
        due("half of 5 is 2", Texts.told("c6600;").minute(0, 1), 3);
        about("then, if it is NEEDS and 3 or more, STEP is 1 more");
        finger("c0004;", 6, 0);
        finger("c0005;", 7, 1);
        finger("c1003;", 4, 0);
        finger("c1004;", 5, 1);
        finger("c2008;", 10, 0);
        finger("c2009;", 11, 1);
        finger("c3405;", 7, 0);
        finger("c3406;", 8, 1);
        finger("c7002;", 3, 0);
        finger("c7003;", 4, 1);
        finger("c6917;s05;", 20, 6);
        finger("c6915;s05;", 19, 5);
        about("(TRUST is 0 at least, 20 at most.)");
        finger("c2020;s05;", 20, 5);
        finger("c6920;s06;", 20, 6);
        finger("c0019;s06;", 20, 7);
    }

    private static void finger(String bath, int trust, int step) {
        HandUnderTheChin x = Texts.told(bath);
        due("trust of " + bath, x.minute(0, 1), trust);
        due("step of " + bath, x.child(0, 3), step);
    }

    private static void let() {
        about("2 LET go: with TRUST NEEDS or more STEP is 1 more");
        for (int k = 0; k < 8; k++) {
            for (int s = 0; s <= 6; s++) {
                HandUnderTheChin x = Texts.told("c" + k + "000;s0" + s + ";");
                x.feels(0, 0, NEEDS[k][s]);
                due("kind " + k + " step " + s + ": trust stays", x.minute(0, 2), NEEDS[k][s]);
                due("kind " + k + " step " + s + ": a step", x.child(0, 3), s + 1);
                x.feels(0, 1, s);
                x.feels(0, 0, NEEDS[k][s] - 1);
                int left = Math.max(0, NEEDS[k][s] - 1 - FRIGHT[k][0]);
                due("kind " + k + " step " + s + ": a swallow", x.minute(0, 2), left);
                due("kind " + k + " step " + s + ": no step", x.child(0, 3), s);
            }
        }
    }

    private static void letPasses() {
        about("and all beside have PASSES of that one more TRUST");
        for (int k = 0; k < 8; k++) {
            HandUnderTheChin x = Texts.told("c0005;c" + k + "020;c0005;c0005;");
            x.minute(1, 2);
            due("ahead of kind " + k, x.child(0, 2), 5 + PASSES[k]);
            due("behind kind " + k, x.child(2, 2), 5 + PASSES[k]);
            due("afar from kind " + k, x.child(3, 2), 5);
        }
        HandUnderTheChin x = Texts.told("c0005;c5020;c0018;s07;");
        x.minute(1, 2);
        due("who swims has more, too", x.child(0, 2), 8);
        due("20 at most", x.child(2, 2), 20);
        x = Texts.told("c0005;c5020;s16;");
        x.minute(1, 2);
        due("by who swims now", x.child(0, 2), 8);
        x = Texts.told("c0005;c5020;");
        x.minute(1, 1);
        due("not by a finger's step", x.child(0, 2), 5);
    }

    private static void swallow() {
        about("else it is a SWALLOW: TRUST is FRIGHT less");
        for (int k = 0; k < 8; k++) {
            for (int f = 0; f <= 9; f++) {
                HandUnderTheChin x = Texts.told("c" + k + f + "00;s06;");
                int trust = NEEDS[k][6] - 1;
                x.feels(0, 0, trust);
                due("swallow of " + k + " with " + f, x.minute(0, 2), Math.max(0, trust - FRIGHT[k][f]));
            }
        }
        due("0 at least", Texts.told("c0002;").minute(0, 2), 0);
        due("0 exactly", Texts.told("c0003;").minute(0, 2), 0);
        due("from 0", Texts.told("c2900;").minute(0, 2), 0);
    }

    private static void swallowPasses() {
        about("and all beside have PASSES less");
        for (int k = 0; k < 8; k++) {
            HandUnderTheChin x = Texts.told("c0005;c" + k + "000;c0005;c0005;s07;");
            x.minute(1, 2);
            due("ahead of kind " + k + ", swimming", x.child(0, 2), 5 - PASSES[k]);
            due("behind kind " + k, x.child(2, 2), 5 - PASSES[k]);
            due("afar from kind " + k, x.child(3, 2), 5);
        }
        HandUnderTheChin x = Texts.told("c0002;c5000;c0003;");
        x.minute(1, 2);
        due("0 at least", x.child(0, 2), 0);
        due("0 exactly", x.child(2, 2), 0);
    }

    private static void shown() {
        about("3 SHOWN: if another one has a greater STEP, TRUST is 1 more, and 1 more yet, if such a one stands beside");
        show("c0000;", 0, 0);
        show("c0000;c0000;", 0, 0);
        show("c0000;c0000;s03;s13;", 0, 0);
        show("c0000;c0000;s03;s12;", 0, 0);
        show("c0000;c0000;s03;s14;", 0, 2);
        show("c0000;c0000;s06;s17;", 0, 2);
        show("c0000;c0000;c0000;s21;", 0, 1);
        show("c0000;c0000;c0000;s01;", 2, 1);
        show("c0000;c0000;c0000;s01;s21;", 1, 2);
        show("c0000;c0000;c0000;s01;", 1, 2);
        // Beside stands one of the same STEP, afar one of a greater.
        show("c0000;c0000;c0000;s03;s13;s24;", 0, 1);
        show("c0019;c0000;s11;", 0, 20);
        show("c0020;c0000;s11;", 0, 20);
        show("c0019;c0000;c0000;s21;", 0, 20);
        HandUnderTheChin x = Texts.told("c0020;c0000;s17;");
        x.minute(0, 3);
        due("no step by it", x.child(0, 3), 0);
    }

    private static void show(String bath, int c, int want) {
        HandUnderTheChin x = Texts.told(bath);
        int swam = x.count(5);
        due("shown to " + c + " in " + bath, x.minute(c, 3), want);
        due("nobody else swims by it", x.count(5), swam);
    }

    private static void shownBySix() {
        about("3 SHOWN: if another one has a greater STEP");
        for (int o = 1; o < 6; o++) {
            HandUnderTheChin x = Texts.told(SIX_SHY + "s" + o + "1;");
            due("by " + o + " to 0", x.minute(0, 3), o == 1 ? 2 : 1);
            x = Texts.told(SIX_SHY + "s" + (5 - o) + "1;");
            due("by " + (5 - o) + " to 5", x.minute(5, 3), o == 1 ? 2 : 1);
        }
    }

    private static void othersAreColder() {
        about("All others who do not SWIM are 1 COLDER (20 at most)");
        for (int way = 0; way <= 3; way++) {
            HandUnderTheChin x = Texts.told(Texts.repeat("c7000;", 6) + "s07;s57;");
            due("way " + way, Texts.tell(x, "m2" + way + ";"), 1);
            due("who is taken is not", x.child(2, 4), 0);
            due("who swims is not", x.child(0, 4) + x.child(5, 4), 0);
            due("the others are", x.child(1, 4) + x.child(3, 4) + x.child(4, 4), 3);
            // 1 is taken now, and 3 SWIMS: each keeps the 1 that it has.
            due("way " + way + " again", Texts.tell(x, "s37;m1" + way + ";"), 2);
            due("who is taken keeps it", x.child(1, 4), 1);
            due("who swims keeps it", x.child(3, 4), 1);
            due("who was taken is colder", x.child(2, 4), 1);
            due("the other is colder", x.child(4, 4), 2);
        }
    }

    private static void colderThanBears() {
        about("each of these who is COLDER than BEARS then has 1 TRUST less and COLD 0");
        for (int k = 0; k < 7; k++) {
            for (int f = 0; f <= 9; f += 9) {
                HandUnderTheChin x = Texts.told("c0000;c" + k + f + "05;");
                for (int i = 1; i <= BEARS[k][f]; i++) {
                    x.minute(0, 3);
                    due("kind " + k + " bears", x.child(1, 4), i);
                    due("kind " + k + " minds not", x.child(1, 2), 5);
                }
                x.minute(0, 3);
                due("kind " + k + " is colder", x.child(1, 4), 0);
                due("kind " + k + " minds", x.child(1, 2), 4);
                x.minute(0, 3);
                due("kind " + k + " begins again", x.child(1, 4), 1);
            }
        }
        HandUnderTheChin x = Texts.told("c0000;c2000;m00;m00;m00;m00;m00;");
        due("0 at least", x.child(1, 2), 0);
        due("cold 0 all the same", x.child(1, 4), 0);
    }

    /** A laugh comes to 20 or from 0 ahead of the cold: 1 + 1 - 1, but 20 and 1 is 20, less 1. */
    private static void coldComesLast() {
        about("each of these who is COLDER than BEARS then has 1 TRUST less");
        String five = "m03;m03;m03;m03;m03;";
        HandUnderTheChin x = Texts.told("c0020;c0000;" + five);
        x.minute(0, 2);
        due("0 and 1, less 1", x.child(1, 2), 0);
        x = Texts.told("c0020;c0020;" + five);
        x.minute(0, 2);
        due("20 at most, less 1", x.child(1, 2), 19);
        due("cold", x.child(1, 4), 0);
    }

    // ---- a BREAK

    private static void breakSteps() {
        about("all STEPS (but of those who SWIM) are n by 3, cut, less");
        int[] less = {0, 0, 0, 1, 1, 1, 2, 2, 2, 3};
        for (int n = 0; n <= 9; n++) {
            HandUnderTheChin x = Texts.told(Texts.repeat("c0000;", 6) + "s01;s12;s23;s34;s46;s57;");
            int[] steps = {1, 2, 3, 4, 6};
            int sum = 7;
            for (int c = 0; c < 5; c++) {
                sum += Math.max(0, steps[c] - less[n]);
            }
            due("steps behind " + n + " weeks", x.rest(n), sum);
            for (int c = 0; c < 5; c++) {
                due("step of " + c + " behind " + n, x.child(c, 3), Math.max(0, steps[c] - less[n]));
            }
            due("who swims swims on", x.child(5, 3), 7);
            x = Texts.told("c0000;s06;");
            due("by a text", Texts.tell(x, "b" + n + ";"), 1);
            due("step by a text", x.child(0, 3), 6 - less[n]);
        }
    }

    private static void breakTrust() {
        about("all TRUST n less (0 at least); COLD is 0");
        for (int n = 0; n <= 9; n++) {
            HandUnderTheChin x = Texts.told("c7020;c7009;c7008;c7000;c7020;c7005;");
            Texts.tell(x, "m30;m30;m30;s47;s57;t300;");
            x.rest(n);
            int[] trusts = {20, 9, 8, 0, 20, 5};
            for (int c = 0; c < 6; c++) {
                due("trust of " + c + " behind " + n, x.child(c, 2), Math.max(0, trusts[c] - n));
                due("cold of " + c + " behind " + n, x.child(c, 4), 0);
            }
            due("no minute", x.count(1), 3);
        }
    }

    private static void refusalsOfLongs() {
        about("Of longs they are 1000000000 less them (-1 is told as 1000000001)");
        HandUnderTheChin x = new HandUnderTheChin();
        due("mean", x.mean(2), 1000000001L);
        due("frights", x.frights(0, 0, 0, 2, 0), 1000000001L);
    }
}
