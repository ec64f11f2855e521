/** Each call's REFUSALS in the order that it tells them, and that they, and all questions, change nothing. */
public final class RefusalsTest {
    private static final int LEAST = Integer.MIN_VALUE;
    private static final int MOST = Integer.MAX_VALUE;
    private static final long LONG = 1000000001L;
    private static final int NOTHING = 2;
    private static final int KIND = 1;
    private static final int SHORTS = 3;
    private static final int INTS = 4;
    private static final int EMPTY = 5;
    private static final int BYTES = 6;
    private static final Check CHECK = new Check("refusals");
    private static final String BEFORE = all(bath());
    private static final String SIX_BEFORE = all(six());

    /** A call on a bath. */
    private interface Call {
        long on(HandUnderTheChin x);
    }

    public static void main(String[] args) {
        bathRefuses();
        childRefuses();
        comesRefuses();
        feelsRefuses();
        minuteRefuses();
        changeAndRestRefuse();
        letGoRefuses();
        besideRefuses();
        bandsAndFrightsRefuse();
        wasAndDareRefuse();
        groupAndColdestRefuse();
        toldRefuses();
        restoreAndCountRefuse();
        keepAndRowRefuse();
        putAndCopyRefuse();
        costAndTossRefuse();
        elementThrows();
        questionsChangeNothing();
        CHECK.end();
    }

    /** Three children, 1 of them SWIMS; all sorts of things on the SHELVES; THE IMAGE is another state. */
    private static HandUnderTheChin bath() {
        HandUnderTheChin x = Texts.told("c0505;c1307;c2002;c4920;s17;s03;m00;m20;");
        x.image();
        Texts.tell(x, "m02;b1;m23;x32;m00;");
        x.keep(KIND, 1, 5, 4);
        Texts.numbers(x, SHORTS, 1, 1, 2, -3);
        Texts.numbers(x, INTS, 2, 0, 0, 2, MOST);
        x.row(EMPTY, 0, 0);
        Texts.numbers(x, BYTES, 0, 5, -128, 7);
        x.keep(7, 1, 7, 9);
        return x;
    }

    private static HandUnderTheChin six() {
        HandUnderTheChin x = bath();
        x.comes(KIND, 3);
        x.comes(7, 20);
        return x;
    }

    /** All that there is; it is used up by this. */
    private static String all(HandUnderTheChin x) {
        StringBuilder text = new StringBuilder(Texts.state(x));
        for (int d = 0; d <= 7; d++) {
            text.append('/').append(x.cost(d)).append(' ').append(x.toss(d)).append(' ').append(x.bath(d) == -12);
            for (int i = 0; i <= 100; i++) {
                text.append(' ').append(Texts.element(x, d, i));
            }
            x.put(d, 0, 70000);
            text.append(' ').append(Texts.element(x, d, 0));
        }
        text.append(x.restore()).append(' ').append(Texts.state(x));
        return text.toString();
    }

    private static void unchanged(String call, long want, Call on) {
        HandUnderTheChin x = bath();
        CHECK.due(call, on.on(x), want);
        CHECK.same(call + ": all that there is", all(x), BEFORE);
    }

    private static void unchangedSix(String call, long want, Call on) {
        HandUnderTheChin x = six();
        CHECK.due(call, on.on(x), want);
        CHECK.same(call + ": all that there is", all(x), SIX_BEFORE);
    }

    private static void bathRefuses() {
        CHECK.about("Promise 2: -1, -11, -12 (no ROW of bytes)");
        unchanged("bath(-1)", -1, x -> x.bath(-1));
        unchanged("bath(8)", -1, x -> x.bath(8));
        unchanged("bath of nothing", -11, x -> x.bath(NOTHING));
        unchanged("bath of a kind", -12, x -> x.bath(KIND));
        unchanged("bath of shorts", -12, x -> x.bath(SHORTS));
        unchanged("bath of ints", -12, x -> x.bath(INTS));
        unchanged("bath of no bytes", -1000, x -> x.bath(EMPTY));
        unchanged("bath of other bytes", -1000, x -> x.bath(BYTES));
        CHECK.about("with one nothing");
        for (String text : new String[] {"m02;b9;x01;s02;t009;c7020;m77;", "m02;b9;x01;s02;t009;c7020;m"}) {
            HandUnderTheChin x = bath();
            Texts.write(x, 0, text);
            String before = all(x);
            x = bath();
            Texts.write(x, 0, text);
            CHECK.due("bath of " + text, x.bath(0), text.endsWith(";") ? -2026 : -1027);
            CHECK.same("all that there is", all(x), before);
        }
    }

    private static void childRefuses() {
        CHECK.about("Promise 3: -1");
        for (int wild : new int[] {-1, 4, LEAST, MOST}) {
            unchanged("child " + wild, -1, x -> x.child(wild, 0));
        }
        for (int wild : new int[] {-1, 10, LEAST, MOST}) {
            unchanged("what " + wild, -1, x -> x.child(0, wild));
        }
    }

    private static void comesRefuses() {
        CHECK.about("Promise 4: -1, -11, -12 (a ROW), -2");
        for (int wild : new int[] {-1, 8, LEAST, MOST}) {
            unchanged("shelf " + wild, -1, x -> x.comes(wild, 0));
        }
        for (int wild : new int[] {-1, 21, LEAST, MOST}) {
            unchanged("trust " + wild, -1, x -> x.comes(KIND, wild));
            unchanged("trust " + wild + " ahead of nothing", -1, x -> x.comes(NOTHING, wild));
            unchanged("trust " + wild + " ahead of a row", -1, x -> x.comes(BYTES, wild));
            unchangedSix("trust " + wild + " ahead of no room", -1, x -> x.comes(KIND, wild));
        }
        unchanged("nothing", -11, x -> x.comes(NOTHING, 20));
        unchanged("a row", -12, x -> x.comes(EMPTY, 0));
        unchangedSix("nothing ahead of no room", -11, x -> x.comes(NOTHING, 0));
        unchangedSix("a row ahead of no room", -12, x -> x.comes(INTS, 0));
        unchangedSix("no room", -2, x -> x.comes(KIND, 0));
    }

    private static void feelsRefuses() {
        CHECK.about("Promise 5: -1");
        for (int wild : new int[] {-1, 4, LEAST, MOST}) {
            unchanged("one " + wild, -1, x -> x.feels(wild, 0, 1));
        }
        for (int wild : new int[] {-1, 2, LEAST, MOST}) {
            unchanged("what " + wild, -1, x -> x.feels(0, wild, 1));
        }
        for (int wild : new int[] {-1, 21, LEAST, MOST}) {
            unchanged("trust " + wild, -1, x -> x.feels(0, 0, wild));
        }
        for (int wild : new int[] {-1, 8, 20, LEAST, MOST}) {
            unchanged("step " + wild, -1, x -> x.feels(0, 1, wild));
        }
    }

    private static void minuteRefuses() {
        CHECK.about("Promise 6: -1, -3 (one SWIMS, MINUTE above 999)");
        for (int wild : new int[] {-1, 4, LEAST, MOST}) {
            unchanged("one " + wild, -1, x -> x.minute(wild, 0));
            unchanged("way " + wild, -1, x -> x.minute(0, wild));
            unchanged("way " + wild + " ahead of who swims", -1, x -> x.minute(1, wild));
        }
        for (int way = 0; way <= 3; way++) {
            int w = way;
            unchanged("who swims, way " + way, -3, x -> x.minute(1, w));
        }
    }

    private static void changeAndRestRefuse() {
        CHECK.about("Promises 7 and 8: -1");
        for (int wild : new int[] {-1, 4, LEAST, MOST}) {
            unchanged("change with " + wild, -1, x -> x.change(wild, 0));
            unchanged("change with " + wild, -1, x -> x.change(0, wild));
        }
        unchanged("one twice", -1, x -> x.change(2, 2));
        for (int wild : new int[] {-1, 10, LEAST, MOST}) {
            unchanged("rest " + wild, -1, x -> x.rest(wild));
        }
    }

    private static void letGoRefuses() {
        CHECK.about("Promises 10 to 13: -1");
        for (int wild : new int[] {-1, 4, LEAST, MOST}) {
            unchanged("alone", -1, x -> x.alone(wild, 0));
            unchanged("alone", -1, x -> x.alone(0, wild));
            unchanged("neverHeld", -1, x -> x.neverHeld(wild));
            unchanged("mostSteps", -1, x -> x.mostSteps(wild, 0));
            unchanged("mostSteps", -1, x -> x.mostSteps(1, wild));
            unchanged("byTurns", -1, x -> x.byTurns(1, wild));
        }
        for (int wild : new int[] {-1, 100, LEAST, MOST}) {
            unchanged("byTurns", -1, x -> x.byTurns(wild, 0));
        }
    }

    private static void besideRefuses() {
        CHECK.about("Promises 15 and 17: -1");
        for (int wild : new int[] {-2, 4, LEAST, MOST}) {
            unchanged("beside", -1, x -> x.beside(wild));
            unchanged("costs", -1, x -> x.costs(wild));
        }
    }

    private static void bandsAndFrightsRefuse() {
        CHECK.about("Promise 18: -1, -3 one SWIMS");
        for (int wild : new int[] {-1, 10, LEAST, MOST}) {
            unchanged("one", -1, x -> x.bands(wild, 1, 1));
            unchanged("air", -1, x -> x.bands(0, wild, 1));
            unchanged("out", -1, x -> x.bands(0, 1, wild));
            unchanged("air ahead of who swims", -1, x -> x.bands(1, wild, 1));
            unchanged("out ahead of who swims", -1, x -> x.bands(1, 1, wild));
        }
        unchanged("who swims", -3, x -> x.bands(1, 1, 1));
        CHECK.about("Promise 19: Refused as told: -1");
        for (int wild : new int[] {-1, 21, LEAST, MOST}) {
            unchanged("one", LONG, x -> x.frights(wild, 1, 1, 2, 0));
            unchanged("n", LONG, x -> x.frights(0, wild, 1, 2, 0));
            unchanged("k", LONG, x -> x.frights(0, 1, wild, 2, 0));
            unchanged("t", LONG, x -> x.frights(0, 1, 1, wild, 0));
            unchanged("part", LONG, x -> x.frights(0, 1, 1, 2, wild));
        }
    }

    private static void wasAndDareRefuse() {
        CHECK.about("Promise 20: -1, -11, -12 (no ROW)");
        for (int d : new int[] {NOTHING, KIND, BYTES}) {
            for (int wild : new int[] {-1, 21, LEAST, MOST}) {
                unchanged("v", -1, x -> x.was(d, wild, 0, 0));
                unchanged("f", -1, x -> x.was(d, 0, wild, 0));
                unchanged("what", -1, x -> x.was(d, 0, 0, wild));
            }
        }
        unchanged("shelf 8", -1, x -> x.was(8, 0, 0, 0));
        unchanged("nothing", -11, x -> x.was(NOTHING, 0, 0, 0));
        unchanged("a kind", -12, x -> x.was(KIND, 0, 0, 0));
        CHECK.about("Promise 21: -1 (one twice)");
        for (int wild : new int[] {-1, 4, LEAST, MOST}) {
            unchanged("dare", -1, x -> x.dare(wild, 0));
            unchanged("dare", -1, x -> x.dare(0, wild));
        }
        unchanged("one twice", -1, x -> x.dare(3, 3));
    }

    private static void groupAndColdestRefuse() {
        CHECK.about("Promises 22, 24 and 26: -1");
        for (int wild : new int[] {-1, 31, LEAST, MOST}) {
            unchanged("group", -1, x -> x.group(wild, 0));
            unchanged("group", -1, x -> x.group(0, wild));
            unchanged("coldest", -1, x -> x.coldest(wild, 0));
            unchanged("mean", LONG, x -> x.mean(wild));
        }
        for (int wild : new int[] {-1, 61, LEAST, MOST}) {
            unchanged("coldest", -1, x -> x.coldest(0, wild));
        }
    }

    private static void toldRefuses() {
        CHECK.about("Promise 27: -1, -11, -12 (no ROW), -13 (unwhole)");
        unchanged("forged(8)", -1, x -> x.forged(8));
        unchanged("forged by nothing", -11, x -> x.forged(NOTHING));
        unchanged("forged by a kind", -12, x -> x.forged(KIND));
        unchanged("forged, unwhole", -13, x -> x.forged(SHORTS));
        CHECK.about("Promise 28: -1, -11, -12");
        unchanged("judge(8, 0)", -1, x -> x.judge(8, 0));
        unchanged("judge by nothing, no such one", -1, x -> x.judge(NOTHING, 4));
        unchanged("judge by a kind, no such one", -1, x -> x.judge(KIND, -1));
        unchanged("judge by nothing", -11, x -> x.judge(NOTHING, 0));
        unchanged("judge by a kind", -12, x -> x.judge(KIND, 3));
        CHECK.about("Promise 29: -1, -3 nobody");
        for (int wild : new int[] {-1, 21, LEAST, MOST}) {
            unchanged("weeks", -1, x -> x.weeks(wild, 1, 0));
            unchanged("what of weeks", -1, x -> x.weeks(1, 1, wild));
        }
        CHECK.due("weeks of nobody, n 0", new HandUnderTheChin().weeks(0, 1, 0), -1);
        CHECK.due("weeks of nobody", new HandUnderTheChin().weeks(1, 1, 0), -3);
    }

    private static void restoreAndCountRefuse() {
        CHECK.about("Promise 31: -3 there is none");
        HandUnderTheChin x = Texts.told("c0000;m00;");
        CHECK.due("restore", x.restore(), -3);
        CHECK.same("nothing changed", Texts.state(x), "1 1 2 0 0 0 |0 0 2 0 0 ");
        CHECK.about("Promise 32: -1 for others");
        for (int wild : new int[] {-1, 6, LEAST, MOST}) {
            unchanged("count", -1, y -> y.count(wild));
        }
    }

    private static void keepAndRowRefuse() {
        for (int d = 0; d <= 7; d++) {
            int to = d;
            CHECK.about("Promise 33: -1");
            for (int wild : new int[] {-1, 10, LEAST, MOST}) {
                unchanged("keep", -1, x -> x.keep(wild, 1, 0, 0));
                unchanged("keep what", -1, x -> x.keep(to, wild, 0, 0));
                unchanged("keep kind", -1, x -> x.keep(to, 1, wild, 0));
                unchanged("keep figure", -1, x -> x.keep(to, 1, 0, wild));
            }
            CHECK.about("Promise 34: -1 (n above 100); -14");
            unchanged("row of 101", -1, x -> x.row(to, 0, 101));
            unchanged("row of most", -1, x -> x.row(to, 0, MOST));
            unchanged("row of -1", -14, x -> x.row(to, 0, -1));
            unchanged("row of least", -14, x -> x.row(to, 2, LEAST));
            unchanged("row of sort 3 and size -1", -1, x -> x.row(to, 3, -1));
            unchanged("row of sort -1 and size -1", -1, x -> x.row(to, -1, -1));
        }
        unchanged("row on shelf 8 of -1", -1, x -> x.row(8, 0, -1));
        unchanged("row on shelf -1 of -1", -1, x -> x.row(-1, 0, -1));
    }

    private static void putAndCopyRefuse() {
        CHECK.about("Promise 35: -1, -11, -12, -13");
        for (int wild : new int[] {-1, 100, LEAST, MOST}) {
            unchanged("shelf", -1, x -> x.put(wild, wild, 9));
            unchanged("nothing", -11, x -> x.put(NOTHING, wild, 9));
            unchanged("a kind", -12, x -> x.put(KIND, wild, 9));
            unchanged("no place", -13, x -> x.put(BYTES, wild, 9));
        }
        unchanged("no place in none", -13, x -> x.put(EMPTY, 0, 9));
        CHECK.about("Promise 37: -1, -11 (either), -12 (no ROWS of one SORT), -13");
        unchanged("no shelf ahead of nothing", -1, x -> x.copy(8, 0, NOTHING, 0, 1));
        unchanged("no shelf behind nothing", -1, x -> x.copy(NOTHING, 0, -1, 0, 1));
        unchanged("no shelf behind a kind", -1, x -> x.copy(KIND, 0, 8, 0, 1));
        unchanged("nothing ahead of a kind", -11, x -> x.copy(NOTHING, 0, KIND, 0, 1));
        unchanged("nothing behind a kind", -11, x -> x.copy(KIND, 0, NOTHING, 0, 1));
        unchanged("nothing behind a row without such a place", -11, x -> x.copy(BYTES, 9, NOTHING, 0, 1));
        unchanged("a kind ahead of no such place", -12, x -> x.copy(KIND, 0, BYTES, 9, 1));
        unchanged("a kind behind no such place", -12, x -> x.copy(BYTES, 9, KIND, 0, 1));
        unchanged("another sort ahead of no such place", -12, x -> x.copy(SHORTS, -1, INTS, 9, -1));
        unchanged("two kinds", -12, x -> x.copy(KIND, 0, 7, 0, 0));
        unchanged("no such place", -13, x -> x.copy(BYTES, 3, BYTES, 0, 1));
        unchanged("no such place to come to", -13, x -> x.copy(BYTES, 0, EMPTY, 0, 1));
        unchanged("a size below 0", -13, x -> x.copy(BYTES, 0, BYTES, 0, -1));
        unchanged("none", 0, x -> x.copy(BYTES, 0, BYTES, 1, 0));
    }

    private static void costAndTossRefuse() {
        CHECK.about("Promises 38 and 39: -1, -11, -12 (a ROW); -15");
        for (int wild : new int[] {-1, 8, LEAST, MOST}) {
            unchanged("cost", -1, x -> x.cost(wild));
            unchanged("toss", -1, x -> x.toss(wild));
        }
        unchanged("cost of nothing", -11, x -> x.cost(NOTHING));
        unchanged("toss of nothing", -11, x -> x.toss(NOTHING));
        unchanged("cost of a row", -12, x -> x.cost(EMPTY));
        unchanged("toss of a row", -12, x -> x.toss(EMPTY));
        unchanged("cost", 13, x -> x.cost(KIND));
        unchanged("toss", 104, x -> x.toss(KIND));
    }

    /** 1 for IllegalArgumentException, 2 for IllegalStateException, 0 for an answer. */
    private static int thrown(HandUnderTheChin x, int d, int i) {
        String element = Texts.element(x, d, i);
        return element.equals("IAE") ? 1 : element.equals("ISE") ? 2 : 0;
    }

    private static void elementThrows() {
        CHECK.about("IllegalArgumentException: no such SHELF; IllegalStateException: no ROW, no such place");
        for (int wild : new int[] {-1, 100, LEAST, MOST}) {
            unchanged("shelf", 1, x -> thrown(x, wild, wild));
            unchanged("nothing", 2, x -> thrown(x, NOTHING, wild));
            unchanged("a kind", 2, x -> thrown(x, KIND, wild));
            unchanged("no place", 2, x -> thrown(x, BYTES, wild));
        }
        unchanged("shelf 8", 1, x -> thrown(x, 8, 0));
        unchanged("a place", 0, x -> thrown(x, BYTES, 2));
    }

    private static void asked(String call, Call on) {
        HandUnderTheChin x = six();
        long first = on.on(x);
        CHECK.due(call + " asked again", on.on(x), first);
        CHECK.same(call + ": all that there is", all(x), SIX_BEFORE);
    }

    private static void questionsChangeNothing() {
        CHECK.about("Nothing is promised beyond the answers and state changes described above");
        for (int what = 0; what <= 1; what++) {
            int w = what;
            for (int c = 0; c < 6; c++) {
                int one = c;
                asked("alone", x -> x.alone(one, w));
                asked("neverHeld", x -> x.neverHeld(one));
                asked("costs", x -> x.costs(one));
                asked("bands", x -> x.bands(one, 9, 2));
                asked("frights", x -> x.frights(one, 8, 3, 20, w));
                asked("coldest", x -> x.coldest(one, 60));
                asked("judge", x -> x.judge(BYTES, one));
                asked("beside", x -> x.beside(one));
                asked("dare", x -> x.dare(one, 5 - one));
            }
            asked("mostSteps", x -> x.mostSteps(3, w));
            asked("byTurns", x -> x.byTurns(99, w));
            asked("group", x -> x.group(9, w));
            asked("mean", x -> x.mean(w));
            asked("was", x -> x.was(SHORTS, 1, 0, w));
            asked("weeks", x -> x.weeks(20, 1, w));
        }
        asked("ready", HandUnderTheChin::ready);
        asked("allSwim", HandUnderTheChin::allSwim);
        asked("helps", HandUnderTheChin::helps);
        asked("forget", HandUnderTheChin::forget);
        asked("last", HandUnderTheChin::last);
        asked("forged", x -> x.forged(INTS));
        asked("the sum of beside", x -> x.beside(-1));
    }
}
