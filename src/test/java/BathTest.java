/** Promises 1 to 8: the bath as told. */
public final class BathTest {
    private static final Check CHECK = new Check("bath");

    public static void main(String[] args) {
        newObject();
        kindsTable();
        childRefusals();
        textsInShape();
        misshapenTexts();
        falseStatements();
        faultsChangeNothing();
        textsGoOnFromNow();
        comes();
        feels();
        heldAndFingered();
        letGo();
        shown();
        cold();
        minuteRefusals();
        lastMinute();
        change();
        rest();
        CHECK.end();
    }

    private static void due(String call, long got, long want) {
        CHECK.due(call, got, want);
    }

    private static void newObject() {
        HandUnderTheChin x = new HandUnderTheChin();
        CHECK.same("a new object", Texts.state(x), "0 0 0 0 0 0 ");
        for (int d = 0; d < 8; d++) {
            due("a new shelf", x.cost(d), -11);
        }
        due("no image yet", x.restore(), -3);
    }

    /** HOLDS, NEEDS at STEP 0, 3, 6, FRIGHT, BEARS, PASSES of each KIND with FIGURE 0, 5, 9. */
    private static void kindsTable() {
        int[][] due = {
            {2, 4, 7, 10, 3, 5, 1}, {2, 4, 7, 10, 3, 5, 1}, {2, 4, 7, 10, 3, 5, 1},
            {1, 2, 5, 8, 2, 5, 1}, {1, 2, 5, 8, 2, 10, 1}, {1, 2, 5, 8, 2, 14, 1},
            {3, 8, 14, 20, 3, 4, 0}, {3, 8, 14, 20, 5, 4, 0}, {3, 8, 14, 20, 7, 4, 0},
            {3, 4, 7, 10, 3, 5, 1}, {3, 5, 8, 11, 3, 5, 1}, {3, 6, 9, 12, 3, 5, 1},
            {1, 2, 5, 8, 0, 5, 2}, {1, 2, 5, 8, 0, 10, 2}, {1, 2, 5, 8, 0, 14, 2},
            {1, 2, 5, 8, 2, 5, 3}, {1, 2, 5, 8, 2, 10, 3}, {1, 2, 5, 8, 2, 14, 3},
            {3, 7, 13, 19, 6, 4, 0}, {4, 7, 13, 19, 10, 4, 0}, {6, 7, 13, 19, 14, 4, 0},
            {1, 1, 2, 4, 2, 20, 1}, {1, 1, 2, 4, 2, 20, 1}, {1, 1, 2, 4, 2, 20, 1},
        };
        int[] figures = {0, 5, 9};
        for (int k = 0; k < 8; k++) {
            for (int f = 0; f < 3; f++) {
                HandUnderTheChin x = Texts.told("c" + k + figures[f] + "03;");
                int[] want = due[3 * k + f];
                String who = "kind " + k + " figure " + figures[f] + " ";
                due(who + "kind", x.child(0, 0), k);
                due(who + "figure", x.child(0, 1), figures[f]);
                due(who + "holds", x.child(0, 5), want[0]);
                due(who + "needs at 0", x.child(0, 6), want[1]);
                x.feels(0, 1, 3);
                due(who + "needs at 3", x.child(0, 6), want[2]);
                x.feels(0, 1, 6);
                due(who + "needs at 6", x.child(0, 6), want[3]);
                x.feels(0, 1, 7);
                due(who + "needs, swimming", x.child(0, 6), 0);
                due(who + "fright", x.child(0, 7), want[4]);
                due(who + "bears", x.child(0, 8), want[5]);
                due(who + "passes", x.child(0, 9), want[6]);
            }
        }
    }

    private static void childRefusals() {
        HandUnderTheChin x = Texts.told("c0505;");
        due("child(-1, 0)", x.child(-1, 0), -1);
        due("child(1, 0)", x.child(1, 0), -1);
        due("child(6, 0)", x.child(6, 0), -1);
        due("child(0, 10)", x.child(0, 10), -1);
        due("child(0, -1)", x.child(0, -1), -1);
        due("child of nobody", new HandUnderTheChin().child(0, 0), -1);
    }

    private static void textsInShape() {
        HandUnderTheChin x = new HandUnderTheChin();
        due("one statement", Texts.tell(x, "c1320;"), 1);
        CHECK.same("one came", Texts.state(x), "1 0 20 0 0 0 |1 3 20 0 0 ");
        due("all letters", Texts.tell(x, "c6904;s07;t011;m10;b3;x01;"), 6);
        // The one who SWIMS keeps STEP 7 in the break; TRUST 11 and 4 + 6, each 3 less.
        CHECK.same("all letters told", Texts.state(x), "2 1 15 7 0 2 |6 9 7 0 0 |1 3 8 7 0 ");
        due("t, s of one who swims", Texts.tell(x, "t105;s10;"), 2);
        due("step as told", x.child(1, 3), 0);
        due("trust as told", x.child(1, 2), 5);
        due("a break with nobody", Texts.tell(new HandUnderTheChin(), "b9;b0;"), 2);
        due("six are room", Texts.tell(new HandUnderTheChin(), Texts.repeat("c7020;", 6)), 6);
        due("the text stays", (int) x.element(0, 0), 't');
    }

    private static void misshapenTexts() {
        shape("", -1000);
        shape("c", -1001);
        shape("c0", -1002);
        shape("c000", -1004);
        shape("c0000", -1005);
        shape("c0000;c", -1007);
        shape("b1", -1002);
        shape("q", -1000);
        shape("C0000;", -1000);
        shape(";", -1000);
        shape("c0000;;", -1006);
        shape("c00000;", -1005);
        shape("c000;", -1004);
        shape("c 000;", -1001);
        shape("b;", -1001);
        shape("b12;", -1002);
        shape("b/;", -1001);
        shape("b:;", -1001);
        shape("m0;", -1002);
        shape("t000;;", -1005);
        shape("t01;", -1003);
        shape("s0a;", -1002);
        shape("x01:", -1003);
        shape("b1; b1;", -1003);
        shape("b1;" + (char) 0, -1003);
        shape("b1;" + (char) 0xE2, -1003);
        // Kind 1 goes ahead of kind 2, wherever it is.
        shape("c8000;m00;b1", -1012);
        shape(Texts.repeat("b0;", 33), 33);
        shape(Texts.repeat("b0;", 33) + "b", -1100);
    }

    private static void shape(String text, int want) {
        due("text " + text, Texts.tell(new HandUnderTheChin(), text), want);
    }

    private static void falseStatements() {
        shape("c8000;", -2000);
        shape("c9999;", -2000);
        shape("c0021;", -2000);
        shape("c0020;c0099;", -2006);
        shape("m00;", -2000);
        shape("c0000;m10;", -2006);
        shape("c0000;m04;", -2006);
        shape("c0000;s07;m00;", -2010);
        shape("c0000;s07;s06;m03;", 4);
        shape("x01;", -2000);
        shape("c0000;x00;", -2006);
        shape("c0000;x01;", -2006);
        shape("c0000;x10;", -2006);
        shape("t000;", -2000);
        shape("c0000;t021;", -2006);
        shape("c0000;t020;", 2);
        shape("s00;", -2000);
        shape("c0000;s08;", -2006);
        shape("c0000;s17;", -2006);
        shape(Texts.repeat("c0000;", 7), -2036);
        // The first false one is told.
        shape("b9;m00;c8000;", -2003);
        // LET makes one SWIM, so the next minute can not be.
        shape("c0020;s06;m02;m02;", -2014);
    }

    private static void faultsChangeNothing() {
        HandUnderTheChin x = Texts.told("c0505;c1307;m10;");
        String before = Texts.state(x);
        due("kind 2", Texts.tell(x, "c0000;m00;t020;b9;x01;m77;"), -2022);
        CHECK.same("nothing came", Texts.state(x), before);
        due("kind 1", Texts.tell(x, "c0000;m00;z"), -1010);
        CHECK.same("nothing came", Texts.state(x), before);
        due("bath(-1)", x.bath(-1), -1);
        due("bath(8)", x.bath(8), -1);
        due("bath of nothing", x.bath(3), -11);
        x.keep(3, 1, 0, 0);
        due("bath of a kind", x.bath(3), -12);
        x.row(3, 1, 3);
        due("bath of shorts", x.bath(3), -12);
        x.row(3, 2, 3);
        due("bath of ints", x.bath(3), -12);
        CHECK.same("nothing came", Texts.state(x), before);
    }

    private static void textsGoOnFromNow() {
        HandUnderTheChin x = Texts.told("c0505;m00;");
        Texts.write(x, 4, "c1107;m01;");
        due("a text behind a text", x.bath(4), 2);
        CHECK.same("both came", Texts.state(x), "2 2 16 1 1 0 |0 5 9 1 0 |1 1 7 0 1 ");
        due("the same text again", x.bath(4), 2);
        due("three of them", x.count(0), 3);
    }

    private static void comes() {
        HandUnderTheChin x = new HandUnderTheChin();
        x.keep(7, 1, 6, 9);
        due("comes(-1, 0)", x.comes(-1, 0), -1);
        due("comes(8, 0)", x.comes(8, 0), -1);
        due("comes(7, -1)", x.comes(7, -1), -1);
        due("comes(7, 21)", x.comes(7, 21), -1);
        due("trust ahead of nothing", x.comes(2, 21), -1);
        due("comes from nothing", x.comes(2, 20), -11);
        x.row(2, 0, 1);
        due("comes from a row", x.comes(2, 20), -12);
        for (int c = 0; c < 6; c++) {
            due("number", x.comes(7, c), c);
        }
        due("no room", x.comes(7, 0), -2);
        due("nothing ahead of no room", x.comes(3, 0), -11);
        due("a row ahead of no room", x.comes(2, 0), -12);
        CHECK.same("six", Texts.state(x), "6 0 15 0 0 0 |6 9 0 0 0 |6 9 1 0 0 |6 9 2 0 0 |6 9 3 0 0 |6 9 4 0 0 |6 9 5 0 0 ");
        due("the one stays on the shelf", x.cost(7), 12);
        x.keep(7, 1, 1, 0);
        due("who came stays as it was", x.child(0, 0), 6);
    }

    private static void feels() {
        HandUnderTheChin x = Texts.told("c0505;c0107;");
        due("trust", x.feels(1, 0, 20), 7);
        due("step", x.feels(1, 1, 7), 0);
        due("trust 0", x.feels(1, 0, 0), 20);
        due("step 0", x.feels(1, 1, 0), 7);
        due("feels(0, 0, -1)", x.feels(0, 0, -1), -1);
        due("feels(0, 0, 21)", x.feels(0, 0, 21), -1);
        due("feels(0, 1, 8)", x.feels(0, 1, 8), -1);
        due("feels(0, 1, -1)", x.feels(0, 1, -1), -1);
        due("feels(0, 2, 0)", x.feels(0, 2, 0), -1);
        due("feels(0, -1, 0)", x.feels(0, -1, 0), -1);
        due("feels(2, 0, 0)", x.feels(2, 0, 0), -1);
        due("feels(-1, 0, 0)", x.feels(-1, 0, 0), -1);
        CHECK.same("as felt", Texts.state(x), "2 0 5 0 0 0 |0 5 5 0 0 |0 1 0 0 0 ");
    }

    private static void heldAndFingered() {
        HandUnderTheChin x = Texts.told("c6904;");
        due("a clinger held", x.minute(0, 0), 10);
        due("20 at most", Texts.tell(x, "t019;"), 1);
        due("a clinger held", x.minute(0, 0), 20);
        x = Texts.told("c0004;");
        due("a child fingered", x.minute(0, 1), 6);
        due("needs and 3 are 7", x.child(0, 3), 0);
        x.feels(0, 0, 5);
        due("a child fingered", x.minute(0, 1), 7);
        due("a step by the finger", x.child(0, 3), 1);
        due("minutes", x.count(1), 2);
        x = Texts.told("c2020;s05;");
        due("a shy one fingered", x.minute(0, 1), 20);
        due("21 is never there", x.child(0, 3), 5);
        x = Texts.told("c1000;");
        due("a bold one fingered", x.minute(0, 1), 1);
        x = Texts.told("c0020;s06;");
        due("fingered to swim", x.minute(0, 1), 20);
        due("swims", x.count(5), 1);
    }

    private static void letGo() {
        HandUnderTheChin x = Texts.told("c0010;c5002;c0019;c0010;s07;");
        due("a laugher let", x.minute(1, 2), 2);
        // TRUST of all beside is 3 more, of the one who SWIMS too; others are colder.
        CHECK.same("a laugh", Texts.state(x), "4 1 45 8 2 1 |0 0 13 7 0 |5 0 2 1 0 |0 0 20 0 1 |0 0 10 0 1 ");
        due("the laugher swallows", x.minute(1, 2), 0);
        CHECK.same("a fright", Texts.state(x), "4 2 37 8 4 1 |0 0 10 7 0 |5 0 0 1 0 |0 0 17 0 2 |0 0 10 0 2 ");
        x.feels(2, 0, 1);
        x.minute(1, 2);
        due("0 at least", x.child(2, 2), 0);
        x = Texts.told("c4001;c0005;");
        due("a pusher swallows", x.minute(0, 2), 1);
        due("its neighbour has 2 less", x.child(1, 2), 3);
        x = Texts.told("c2908;c0005;");
        due("a shy one let", x.minute(0, 2), 8);
        due("passes nothing on", x.child(1, 2), 5);
        due("a shy one swallows", x.minute(0, 2), 1);
        due("passes nothing on", x.child(1, 2), 5);
    }

    private static void shown() {
        HandUnderTheChin x = Texts.told("c0000;c0000;c0000;s21;");
        due("shown from afar", x.minute(0, 3), 1);
        due("shown from beside", x.minute(1, 3), 2);
        due("nobody has a greater step", x.minute(2, 3), 0);
        x.feels(0, 1, 1);
        due("the same step is not greater", x.minute(2, 3), 0);
        x.feels(1, 1, 2);
        x.feels(0, 1, 0);
        x.feels(0, 0, 19);
        due("20 at most", x.minute(0, 3), 20);
        x = Texts.told("c0000;c0000;c0000;s11;s27;");
        due("one beside and one afar", x.minute(0, 3), 2);
        due("who swims shows it", x.minute(1, 3), 2);
        x = Texts.told("c0000;c0000;c0000;s01;");
        due("the first one shows it", x.minute(1, 3), 2);
        due("the first one from afar", x.minute(2, 3), 1);
    }

    private static void cold() {
        HandUnderTheChin x = Texts.told("c0005;c0005;c2005;c7105;c1005;s47;");
        for (int i = 0; i < 4; i++) {
            x.minute(0, 3);
        }
        due("cold 4 is borne", x.child(2, 4), 4);
        x.minute(0, 3);
        due("a shy one is colder than 4", x.child(2, 4), 0);
        due("1 trust less", x.child(2, 2), 4);
        due("a child bears 5", x.child(1, 4), 5);
        x.minute(0, 3);
        due("and not 6", x.child(1, 4), 0);
        due("1 trust less", x.child(1, 2), 4);
        due("who swims is not cold", x.child(4, 4), 0);
        due("who is taken is not colder", x.child(0, 4), 0);
        for (int i = 0; i < 20; i++) {
            x.minute(0, 3);
        }
        due("20 at most", x.child(3, 4), 20);
        due("a diver bears 20", x.child(3, 2), 5);
        due("all cold", x.count(4), x.child(1, 4) + x.child(2, 4) + 20);
        x.feels(1, 0, 0);
        x.feels(2, 0, 0);
        for (int i = 0; i < 7; i++) {
            x.minute(0, 3);
        }
        due("trust 0 at least", x.child(1, 2), 0);
        x.minute(1, 0);
        due("the first one is colder too", x.child(0, 4), 1);
    }

    private static void minuteRefusals() {
        HandUnderTheChin x = Texts.told("c0005;c0005;s17;");
        String before = Texts.state(x);
        due("minute(-1, 0)", x.minute(-1, 0), -1);
        due("minute(2, 0)", x.minute(2, 0), -1);
        due("minute(0, -1)", x.minute(0, -1), -1);
        due("minute(0, 4)", x.minute(0, 4), -1);
        due("minute(1, 4)", x.minute(1, 4), -1);
        due("minute(1, 0)", x.minute(1, 0), -3);
        CHECK.same("nothing changed", Texts.state(x), before);
    }

    private static void lastMinute() {
        HandUnderTheChin x = Texts.told("c2010;c0020;c0000;");
        Texts.write(x, 0, Texts.repeat("m00;", 25));
        for (int i = 0; i < 39; i++) {
            due("25 minutes", x.bath(0), 25);
        }
        due("975", x.count(1), 975);
        due("the 1000th", x.bath(0), -2096);
        due("still 975", x.count(1), 975);
        due("998", Texts.tell(x, Texts.repeat("m00;", 23)), 23);
        due("999", x.minute(0, 0), 20);
        due("MINUTE", x.count(1), 999);
        String before = Texts.state(x);
        due("above 999", x.minute(0, 0), -3);
        due("above 999 by a text", Texts.tell(x, "m00;"), -2000);
        due("one out of range first", x.minute(9, 0), -1);
        due("by turns no matter", x.byTurns(2, 0), 0);
        due("most steps asked all the same", x.mostSteps(1, 0), 1);
        Texts.numbers(x, 1, 0, 0, 0, 1, 0);
        due("forged no matter", x.forged(1), -4);
        due("weeks no matter", x.weeks(1, 1, 0) >= 0 ? 1 : 0, 1);
        due("image at 999", x.image(), 999);
        CHECK.same("nothing changed", Texts.state(x), before);
    }

    private static void change() {
        HandUnderTheChin x = Texts.told("c0505;c6107;c1002;s17;m00;m00;");
        due("change", x.change(0, 2), 1);
        CHECK.same("changed", Texts.state(x), "3 2 18 7 2 2 |1 0 2 0 2 |6 1 7 7 0 |0 5 9 0 0 ");
        due("change back", x.change(2, 0), 1);
        due("change(1, 1)", x.change(1, 1), -1);
        due("change(0, 3)", x.change(0, 3), -1);
        due("change(3, 0)", x.change(3, 0), -1);
        due("change(-1, 0)", x.change(-1, 0), -1);
        due("change(0, -1)", x.change(0, -1), -1);
        CHECK.same("as it was", Texts.state(x), "3 2 18 7 2 2 |0 5 9 0 0 |6 1 7 7 0 |1 0 2 0 2 ");
    }

    private static void rest() {
        HandUnderTheChin x = Texts.told("c0010;c0002;c0020;s04;s11;s27;m00;");
        due("rest(0)", x.rest(0), 12);
        CHECK.same("cold is 0", Texts.state(x), "3 1 34 12 0 4 |0 0 12 4 0 |0 0 2 1 0 |0 0 20 7 0 ");
        due("rest(2)", x.rest(2), 12);
        due("rest(3)", x.rest(3), 10);
        CHECK.same("3 weeks", Texts.state(x), "3 1 22 10 0 4 |0 0 7 3 0 |0 0 0 0 0 |0 0 15 7 0 ");
        due("rest(9)", x.rest(9), 7);
        CHECK.same("9 weeks", Texts.state(x), "3 1 6 7 0 4 |0 0 0 0 0 |0 0 0 0 0 |0 0 6 7 0 ");
        due("rest(-1)", x.rest(-1), -1);
        due("rest(10)", x.rest(10), -1);
        due("nobody rests", new HandUnderTheChin().rest(9), 0);
    }
}
