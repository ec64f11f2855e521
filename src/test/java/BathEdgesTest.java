/** The edges of promises 1 to 8, each with the words that name it. */
public final class BathEdgesTest {
    private static final Check CHECK = new Check("edges of the bath");

    /** A STATEMENT of each letter. */
    private static final String[] STATEMENTS = {"c0000;", "m00;", "b0;", "x01;", "t000;", "s00;"};
    private static final int[] NO_LETTERS = {0, ' ', ';', '0', '9', 'C', 'M', 'a', 'd', 'l', 'n', 'r', 'u', 'y', 127, 128, 255};
    private static final int[] NO_DIGITS = {0, ' ', '/', ':', ';', '-', 'c', 127, 128 + '0', 255};
    private static final int[] NO_ENDS = {0, ' ', ':', '<', '0', '9', 'c', 127, 128 + ';', 255};

    public static void main(String[] args) {
        newObject();
        lackingEnds();
        wrongSigns();
        shapeFirst();
        whoComes();
        whoIsTaken();
        breaks();
        whoChange();
        toldTrustAndStep();
        firstOfSeveral();
        triedOneBehindTheOther();
        allOrNothing();
        howManyStatements();
        signsAreLowestBits();
        noRowOfBytes();
        childTells();
        comesEdges();
        feelsTellsWhatItWas();
        minuteTellsTrust();
        minuteRefused();
        changeAll();
        restTellsSteps();
        CHECK.end();
    }

    private static void about(String words) {
        CHECK.about(words);
    }

    private static void due(String call, long got, long want) {
        CHECK.due(call, got, want);
    }

    private static void state(String call, HandUnderTheChin x, String want) {
        CHECK.same(call, Texts.state(x), want);
    }

    private static void newObject() {
        about("Promise 1: Nobody");
        HandUnderTheChin x = new HandUnderTheChin();
        state("a new object", x, "0 0 0 0 0 0 ");
        due("no number 0", x.child(0, 0), -1);
        about("hold nothing (at first)");
        for (int d = 0; d <= 7; d++) {
            due("cost of shelf " + d, x.cost(d), -11);
            due("put on shelf " + d, x.put(d, 0, 0), -11);
            due("bath of shelf " + d, x.bath(d), -11);
        }
        about("-3 there is none");
        due("no image at first", x.restore(), -3);
    }

    // ---- FAULTS of kind 1

    private static void fault(String text, int want) {
        due("text " + text, Texts.tell(Texts.told("c0000;c0000;"), text), want);
    }

    private static void lackingEnds() {
        about("(the end, if something lacks): -1000 less the place");
        fault("", -1000);
        for (String s : STATEMENTS) {
            for (int n = 0; n < s.length(); n++) {
                fault(s.substring(0, n), -1000 - n);
                if (n > 0) {
                    fault("b9;" + s.substring(0, n), -1003 - n);
                }
            }
        }
        fault(Texts.repeat("b0;", 33) + "b", -1100);
        fault(Texts.repeat("c0000;", 16) + "c000", -1100);
    }

    private static void wrongSigns() {
        about("kind 1 the place of the first byte with which no BATH can go on");
        for (String s : STATEMENTS) {
            int last = s.length() - 1;
            for (int at = 0; at <= last; at++) {
                for (int sign : at == 0 ? NO_LETTERS : at == last ? NO_ENDS : NO_DIGITS) {
                    String wrong = s.substring(0, at) + (char) sign + s.substring(at + 1);
                    fault(wrong, -1000 - at);
                    fault("x10;" + wrong + "q", -1004 - at);
                    fault(wrong.substring(0, at + 1), -1000 - at);
                }
            }
            fault(s + ";", -1000 - s.length());
            fault(s + "0", -1000 - s.length());
        }
        about("numbers in THE TEXT have just as many digits as told");
        fault("c000;", -1004);
        fault("c00000;", -1005);
        fault("c0005;t05;", -1009);
        fault("t0005;", -1004);
        fault("b10;", -1002);
        fault("m000;", -1003);
        fault("s0;", -1002);
        fault("x0;", -1002);
    }

    private static void shapeFirst() {
        about("else kind 2");
        fault("m90;q", -1004);
        fault("m90;b", -1005);
        fault("c9999;", -2000);
        fault("c8000;m99;x00;t999;s99", -1022);
        fault("c8000;m99;x00;t999;s99;", -2000);
    }

    // ---- FAULTS of kind 2

    private static void whoComes() {
        about("(a number out of range");
        fault("c7000;", 1);
        fault("c8000;", -2000);
        fault("c9000;", -2000);
        fault("c0900;", 1);
        fault("c0020;", 1);
        fault("c0021;", -2000);
        fault("c0099;", -2000);
        about("no room)");
        fault(Texts.repeat("c0000;", 4), 4);
        fault(Texts.repeat("c0000;", 5), -2024);
    }

    private static void whoIsTaken() {
        about("no such one");
        fault("m10;", 1);
        fault("m20;", -2000);
        fault("m90;", -2000);
        fault("c0000;m20;", 2);
        due("of nobody", Texts.tell(new HandUnderTheChin(), "m00;"), -2000);
        about("a number out of range");
        fault("m03;", 1);
        fault("m04;", -2000);
        fault("m09;", -2000);
        about("by m one who SWIMS (t, s may tell of one who SWIMS)");
        for (int way = 0; way <= 3; way++) {
            fault("s17;m1" + way + ";", -2004);
        }
        fault("s17;t120;", 2);
        fault("s17;s17;", 2);
        fault("s17;s16;m10;", 3);
        fault("t120;s16;m12;m12;", -2013);
        about("MINUTE above 999");
        HandUnderTheChin x = Texts.told("c0000;");
        Texts.write(x, 0, Texts.repeat("m03;", 25));
        for (int i = 0; i < 39; i++) {
            due("25 minutes", x.bath(0), 25);
        }
        due("the 25th is the 1000th", x.bath(0), -2096);
        due("24 are not", Texts.tell(x, Texts.repeat("m03;", 24)), 24);
        due("999", x.count(1), 999);
        due("none any more", x.bath(0), -2000);
    }

    private static void breaks() {
        about("\"b\" weeks (a digit): a BREAK");
        for (int n = 0; n <= 9; n++) {
            HandUnderTheChin x = Texts.told("c0020;");
            due("b" + n, Texts.tell(x, "b" + n + ";"), 1);
            due("trust", x.child(0, 2), 20 - n);
        }
        due("of nobody", Texts.tell(new HandUnderTheChin(), "b9;"), 1);
    }

    private static void whoChange() {
        about("one twice");
        fault("x00;", -2000);
        fault("x11;", -2000);
        about("no such one");
        fault("x01;", 1);
        fault("x10;", 1);
        fault("x02;", -2000);
        fault("x20;", -2000);
        fault("x22;", -2000);
        fault("x90;", -2000);
    }

    private static void toldTrustAndStep() {
        about("\"t\" one (a digit), TRUST (2 digits): it is that");
        fault("t100;", 1);
        fault("t120;", 1);
        fault("t121;", -2000);
        fault("t130;", -2000);
        fault("t200;", -2000);
        HandUnderTheChin x = Texts.told("c0505;c0505;t120;t009;");
        state("trust alone", x, "2 0 29 0 0 0 |0 5 9 0 0 |0 5 20 0 0 ");
        about("\"s\" one, STEP (a digit each): it is that");
        fault("s10;", 1);
        fault("s17;", 1);
        fault("s18;", -2000);
        fault("s19;", -2000);
        fault("s20;", -2000);
        due("6 and 7", Texts.tell(x, "s06;s17;"), 2);
        state("steps alone", x, "2 0 29 13 0 2 |0 5 9 6 0 |0 5 20 7 0 ");
    }

    private static void firstOfSeveral() {
        about("the place of the letter of the first STATEMENT that is not as it must be");
        fault("b0;m20;c8000;x00;", -2003);
        fault("b0;t021;m04;", -2003);
        fault("x00;x00;", -2000);
        for (String wrong : new String[] {"c8000;", "m30;", "x00;", "t021;", "s08;"}) {
            fault("c0000;m00;b0;x01;t000;s00;" + wrong, -2026);
        }
        fault(Texts.repeat("b0;", 32) + "m20;", -2096);
    }

    private static void triedOneBehindTheOther() {
        about("STATEMENTS are tried one behind the other, each on what those ahead of it made");
        HandUnderTheChin x = new HandUnderTheChin();
        due("one comes, then is taken", Texts.tell(x, "c0004;m02;m00;s07;x01;"), -2018);
        due("two come, then change", Texts.tell(x, "c0004;m02;m00;s07;c1000;x01;"), 6);
        state("so it is", x, "2 2 6 7 0 2 |1 0 0 0 0 |0 0 6 7 0 ");
        due("what was 0 is 1 now", Texts.tell(x, "m00;m10;"), -2004);
        // The break takes the step, so one does not swim by the second LET.
        due("swims by it", Texts.tell(Texts.told("c0020;s05;"), "m02;m02;m02;"), -2008);
        due("not behind a break", Texts.tell(Texts.told("c0020;s05;"), "m02;b3;m02;m02;"), 4);
    }

    private static void allOrNothing() {
        about("Without FAULT all of it comes, with one nothing");
        HandUnderTheChin x = Texts.told("c0505;c7307;m10;");
        String before = Texts.state(x);
        due("kind 2 at the end", Texts.tell(x, "c2000;s25;m00;t020;b9;x01;m77;"), -2026);
        state("nothing came", x, before);
        due("kind 1 at the end", Texts.tell(x, "c2000;s25;m00;t020;b9;x01;m"), -1027);
        state("nothing came", x, before);
        due("one more", Texts.tell(x, "c2000;"), 1);
        state("nothing is left of the tries", x, "3 1 13 0 1 0 |0 5 5 0 1 |7 3 8 0 0 |2 0 0 0 0 ");
        due("all of it", Texts.tell(x, "s25;m20;t020;b9;x01;"), 5);
        state("all came", x, "3 2 11 2 0 0 |7 3 0 0 0 |0 5 11 0 0 |2 0 0 2 0 ");
    }

    private static void howManyStatements() {
        about("The text in SHELF d: how many STATEMENTS");
        for (int n = 1; n <= 33; n++) {
            due(n + " breaks", Texts.tell(new HandUnderTheChin(), Texts.repeat("b0;", n)), n);
        }
        due("100 bytes", Texts.tell(Texts.told("c0000;"), Texts.repeat("m00;", 25)), 25);
        due("one of each", Texts.tell(Texts.told("c0000;"), String.join("", STATEMENTS)), 6);
        about("The ROW of a text, and what is taken from a SHELF, stay there");
        HandUnderTheChin x = Texts.told("c0000;");
        for (int c = 1; c < 6; c++) {
            due("the same text", x.bath(0), 1);
        }
        due("six", x.bath(0), -2000);
        CHECK.same("still there", Texts.element(x, 0, 5), Integer.toString(';'));
    }

    private static void signsAreLowestBits() {
        about("what is put in keeps its lowest bits");
        HandUnderTheChin x = new HandUnderTheChin();
        Texts.numbers(x, 0, 0, 'b' + 256, '3' - 256, ';' + 65536);
        due("letters by their lowest bits", x.bath(0), 1);
        Texts.numbers(x, 0, 0, 'b', '3' + 128, ';');
        due("not by fewer", x.bath(0), -1001);
    }

    private static void noRowOfBytes() {
        about("-12 (no ROW of bytes)");
        for (int sort = 1; sort <= 2; sort++) {
            HandUnderTheChin x = new HandUnderTheChin();
            Texts.numbers(x, 7, sort, 'b', '3', ';');
            due("sort " + sort, x.bath(7), -12);
            x.row(7, sort, 0);
            due("sort " + sort + " empty", x.bath(7), -12);
        }
        HandUnderTheChin x = new HandUnderTheChin();
        x.keep(7, 1, 0, 0);
        due("a kind", x.bath(7), -12);
        x.keep(7, 0, 0, 0);
        due("nothing", x.bath(7), -11);
        about("Promise 2: -1");
        due("8", x.bath(8), -1);
        due("-1", x.bath(-1), -1);
        due("most", x.bath(Integer.MAX_VALUE), -1);
        due("least", x.bath(Integer.MIN_VALUE), -1);
    }

    // ---- promises 3 to 8

    private static void childTells() {
        about("NEEDS (6; 0 who SWIMS)");
        HandUnderTheChin x = Texts.told("c6904;c6904;s17;m02;");
        int[] swimmer = {6, 9, 4, 7, 0, 6, 0, 14, 4, 0};
        int[] other = {6, 9, 0, 0, 0, 6, 7, 14, 4, 0};
        for (int what = 0; what <= 9; what++) {
            due("what " + what, x.child(0, what), other[what]);
            due("what " + what + ", swimming", x.child(1, what), swimmer[what]);
        }
        about("Promise 3: Of one: .. -1");
        for (int wild : new int[] {-1, 10, Integer.MIN_VALUE, Integer.MAX_VALUE}) {
            due("what " + wild, x.child(0, wild), -1);
            due("of " + wild, x.child(wild, 0), -1);
        }
        due("of 2", x.child(2, 0), -1);
    }

    private static void comesEdges() {
        about("The one on SHELF d is one more: the number");
        HandUnderTheChin x = Texts.told("c0000;c0000;");
        x.keep(7, 1, 5, 9);
        due("behind those who are there", x.comes(7, 20), 2);
        state("as kept", x, "3 0 20 0 0 0 |0 0 0 0 0 |0 0 0 0 0 |5 9 20 0 0 ");
        due("the shelf keeps it", x.comes(7, 0), 3);
        x.keep(7, 1, 0, 0);
        due("who came stays", x.child(3, 0), 5);
        x.change(0, 3);
        due("the next is behind all", x.comes(7, 1), 4);
        due("the last", x.comes(7, 1), 5);
        due("no room", x.comes(7, 1), -2);
    }

    private static void feelsTellsWhatItWas() {
        about("TRUST (what 0), STEP (1) becomes v: what it was");
        HandUnderTheChin x = Texts.told("c0007;c0020;c0000;s15;");
        due("trust it was", x.feels(1, 0, 0), 20);
        due("trust 0 it was", x.feels(1, 0, 20), 0);
        due("step it was", x.feels(1, 1, 0), 5);
        due("step 0 it was", x.feels(1, 1, 7), 0);
        due("step 7 it was", x.feels(1, 1, 7), 7);
        state("the others stay", x, "3 0 27 7 0 2 |0 0 7 0 0 |0 0 20 7 0 |0 0 0 0 0 ");
        for (int[] wild : new int[][] {{0, 0, -1}, {0, 0, 21}, {0, 1, -1}, {0, 1, 8}, {0, 2, 0}, {0, -1, 0}, {3, 0, 0}, {-1, 1, 0}}) {
            due("feels" + java.util.Arrays.toString(wild), x.feels(wild[0], wild[1], wild[2]), -1);
        }
        state("nothing changed", x, "3 0 27 7 0 2 |0 0 7 0 0 |0 0 20 7 0 |0 0 0 0 0 ");
    }

    private static void minuteTellsTrust() {
        about("A MINUTE: TRUST");
        HandUnderTheChin x = Texts.told("c0000;c0003;");
        due("trust 0", x.minute(0, 2), 0);
        due("trust of that one", x.minute(0, 0), 2);
        due("trust of the other", x.minute(1, 1), 4);
        due("minutes", x.count(1), 3);
        x.feels(0, 1, 6);
        x.feels(0, 0, 20);
        due("trust of one who swims by it", x.minute(0, 2), 20);
    }

    private static void minuteRefused() {
        about("-3 (one SWIMS, MINUTE above 999)");
        HandUnderTheChin x = Texts.told("c0000;c0000;s17;");
        for (int way = 0; way <= 3; way++) {
            due("who swims, way " + way, x.minute(1, way), -3);
        }
        due("a way out of range is told first", x.minute(1, 4), -1);
        due("-1 too", x.minute(1, -1), -1);
        Texts.write(x, 0, Texts.repeat("m03;", 25));
        for (int i = 0; i < 39; i++) {
            x.bath(0);
        }
        for (int i = 976; i <= 999; i++) {
            x.feels(0, 0, 0);
            due("minute " + i, x.minute(0, 3), 2);
            due("counted", x.count(1), i);
        }
        for (int way = 0; way <= 3; way++) {
            due("above 999, way " + way, x.minute(0, way), -3);
        }
        due("no such one is told first", x.minute(2, 0), -1);
        due("no such way is told first", x.minute(0, 4), -1);
        due("999", x.count(1), 999);
    }

    private static void changeAll() {
        about("they change places (numbers, all that is theirs)");
        HandUnderTheChin x = Texts.told("c0501;c6907;c7020;c1402;c2003;c3304;s26;s57;s31;m10;m10;");
        due("the first and the last", x.change(0, 5), 1);
        state("changed", x, "6 2 49 14 8 1 |3 3 4 7 0 |6 9 19 0 0 |7 0 20 6 2 |1 4 2 1 2 |2 0 3 0 2 |0 5 1 0 2 ");
        due("back", x.change(5, 0), 1);
        due("neighbours", x.change(2, 1), 1);
        due("kind of 1", x.child(1, 0), 7);
        due("cold of 1", x.child(1, 4), 2);
        due("kind of 2", x.child(2, 0), 6);
        due("cold of 2", x.child(2, 4), 0);
        about("Promise 7: They change places: 1. -1 (one twice)");
        String before = Texts.state(x);
        for (int[] wild : new int[][] {{0, 0}, {5, 5}, {0, 6}, {6, 0}, {-1, 0}, {0, -1}, {-1, -1}, {6, 6}}) {
            due("change" + java.util.Arrays.toString(wild), x.change(wild[0], wild[1]), -1);
        }
        state("nothing changed", x, before);
        due("of nobody", new HandUnderTheChin().change(0, 1), -1);
    }

    private static void restTellsSteps() {
        about("A BREAK (0 .. 9 weeks): all STEPS together");
        HandUnderTheChin x = Texts.told(Texts.repeat("c0020;", 6) + "s06;s16;s26;s36;s46;s57;m00;");
        due("0 weeks", x.rest(0), 37);
        due("cold 0 all the same", x.count(4), 0);
        due("trust stays", x.count(2), 120);
        due("9 weeks", x.rest(9), 22);
        due("9 weeks", x.rest(9), 7);
        due("trust", x.count(2), 12);
        due("nobody", new HandUnderTheChin().rest(0), 0);
        due("10 weeks", x.rest(10), -1);
        due("-1 weeks", x.rest(-1), -1);
        due("most", x.rest(Integer.MAX_VALUE), -1);
        due("least", x.rest(Integer.MIN_VALUE), -1);
        due("nothing changed", x.count(2), 12);
    }
}
