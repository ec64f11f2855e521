/** The edges of promises 9 to 14, each with the words that name it. */
public final class LetGoEdgesTest {
    private static final Check CHECK = new Check("edges of letting go");

    /** HOLDS 2, 1, 3, 1, 6, 1; NEEDS 4, 2, 8, 2, 7, 1. */
    private static final String SIX = "c0505;c1307;c2509;c5204;c6906;c7903;";
    private static final String FIVE_SHY = Texts.repeat("c2000;", 5);
    private static final String ALL_AT_SIX = Texts.repeat("c0020;", 6) + "s06;s16;s26;s36;s46;s56;";

    public static void main(String[] args) {
        ready();
        aloneNone();
        aloneWays();
        aloneAside();
        neverHeld();
        mostStepsNone();
        mostStepsEdges();
        mostStepsWays();
        mostStepsWithAll();
        mostStepsOfSix();
        byTurnsEdges();
        byTurnsRound();
        byTurnsWays();
        allSwim();
        refused();
        CHECK.end();
    }

    private static void about(String words) {
        CHECK.about(words);
    }

    private static void due(String call, long got, long want) {
        CHECK.due(call, got, want);
    }

    // ---- promise 9

    private static void ready() {
        about("READY: who do not SWIM and can be LET without a SWALLOW now (bits)");
        due("nobody", new HandUnderTheChin().ready(), 0);
        HandUnderTheChin x = Texts.told(SIX);
        due("six", x.ready(), 1 + 2 + 4 + 8 + 32);
        for (int c = 0; c < 6; c++) {
            int before = x.ready();
            x.feels(c, 1, 7);
            due(c + " swims", x.ready(), before & ~(1 << c));
        }
        due("all swim", x.ready(), 0);
        due("all of six", Texts.told(ALL_AT_SIX).ready(), 63);
        due("no trust at all", Texts.told("c7000;c1000;").ready(), 0);
        due("just enough", Texts.told("c7001;c1002;").ready(), 3);
    }

    // ---- promises 10 and 11

    private static void alone(String bath, int minutes, int way, int notHeld) {
        HandUnderTheChin x = Texts.told(bath);
        due("alone " + bath, x.alone(0, 0), minutes);
        due("way " + bath, x.alone(0, 1), way);
        due("never held " + bath, x.neverHeld(0), notHeld);
    }

    private static void aloneNone() {
        about("-4 (0, too)");
        alone("c0000;s07;", 0, -4, 0);
        alone("c2020;s07;", 0, -4, 0);
    }

    private static void aloneWays() {
        about("the first WAY of the first such (WAYS 0, 1, 2)");
        // NEEDS 10 at STEP 6: FINGERED with 11 is 13, with 10 it is 12.
        alone("c0011;s06;", 1, 1, 1);
        alone("c0010;s06;", 1, 2, 1);
        alone("c0009;s06;", 2, 0, 2);
        alone("c0007;s06;", 3, 0, 3);
        alone("c2020;s06;", 1, 2, 1);
        about("the fewest MINUTES (0 .. 60) till one SWIMS");
        // A SHY one NEEDS 20: HELD 17, 20, LET; FINGERED 16, 18, 20, LET.
        alone("c2014;s06;", 3, 0, 4);
        alone("c2017;s06;", 2, 0, 3);
        alone("c2018;s06;", 2, 0, 2);
        // 10 HELD from TRUST 0, then LET; a BOLD one NEEDS 8, and a finger brings 1, too.
        alone("c1000;s06;", 9, 0, 9);
        alone("c7001;s06;", 4, 0, 4);
        alone("c6900;s06;", 5, 0, 6);
        alone("c0020;", 7, 1, 7);
        alone("c6920;s05;", 2, 1, 2);
        // HELD 12, five fingers to 20 and STEP 5, LET, LET; a finger each time brings 20 with the tenth.
        alone("c2000;", 11, 0, 12);
    }

    private static void aloneAside() {
        about("ALONE (COLD, others aside; SHOWN does nothing)");
        HandUnderTheChin x = Texts.told("c1000;c0000;c5020;s06;s17;m23;m23;m23;m23;m23;");
        due("cold 5", x.child(0, 4), 5);
        due("a bold one all the same", x.alone(0, 0), 9);
        due("who swims beside does not show it", x.alone(0, 1), 0);
        due("never held", x.neverHeld(0), 9);
        Texts.tell(x, "x02;");
        due("wherever it stands", x.alone(2, 0), 9);
        HandUnderTheChin y = Texts.told(FIVE_SHY + "c2014;s56;");
        due("the last of six", y.alone(5, 0), 3);
        due("the last of six", y.alone(5, 1), 0);
        due("the last of six", y.neverHeld(5), 4);
    }

    private static void neverHeld() {
        about("NEVER HELD: that by WAYS 1, 2 alone");
        HandUnderTheChin x = Texts.told("c6901;s06;");
        due("held: 7, 13, 19, let", x.alone(0, 0), 4);
        due("fingered: 5, 9, 13, 17, 20, let", x.neverHeld(0), 6);
        x.feels(0, 0, 19);
        due("let at once", x.neverHeld(0), 1);
        x.feels(0, 0, 18);
        due("fingered, let", x.neverHeld(0), 2);
    }

    // ---- promise 12

    private static void most(HandUnderTheChin x, int n, int steps, int first) {
        due("most steps of " + n, x.mostSteps(n, 0), steps);
        due("first minute of " + n, x.mostSteps(n, 1), first);
    }

    private static void mostStepsNone() {
        about("-4 (n 0; nobody left)");
        for (int n = 0; n <= 3; n++) {
            most(new HandUnderTheChin(), n, 0, -4);
            most(Texts.told("c0020;s07;"), n, 7, -4);
            most(Texts.told(Texts.repeat("c0020;", 6) + "s07;s17;s27;s37;s47;s57;"), n, 42, -4);
        }
        most(Texts.told("c0020;c0020;s13;"), 0, 3, -4);
    }

    private static void mostStepsEdges() {
        about("MOST STEPS of n MINUTES (0 .. 3)");
        HandUnderTheChin x = Texts.told("c0020;");
        most(x, 1, 1, 1);
        most(x, 2, 2, 1);
        most(x, 3, 3, 1);
        due("4", x.mostSteps(4, 0), -1);
        due("-1", x.mostSteps(-1, 1), -1);
        // With a MINUTE too many the first such begins with HELD.
        x.feels(0, 1, 5);
        most(x, 2, 7, 1);
        most(x, 3, 7, 0);
        x.feels(0, 1, 6);
        most(x, 3, 7, 0);
        about("(one who SWIMS not)");
        most(Texts.told("c5020;c0001;s07;"), 2, 7, 10);
        most(Texts.told("c0001;c5020;s17;"), 2, 7, 0);
        // Nobody is left behind the first minute, if it is the LET; all the same 7.
        most(Texts.told("c2020;s06;"), 3, 7, 0);
        most(Texts.told("c2020;s06;"), 1, 7, 2);
    }

    private static void mostStepsWays() {
        about("by any choice of whom and WAYS 0, 1, 2");
        // HELD 7, LET; a finger leads to 5.
        most(Texts.told("c6901;"), 1, 0, 0);
        most(Texts.told("c6901;"), 2, 1, 0);
        // HELD 7 and 13, LET.
        most(Texts.told("c6901;s03;"), 2, 3, 0);
        most(Texts.told("c6901;s03;"), 3, 4, 0);
        // SHOWN would bring 2, but is no way here: HELD, HELD, LET.
        most(Texts.told("c1000;c0000;s17;"), 2, 7, 0);
        most(Texts.told("c1000;c0000;s17;"), 3, 8, 0);
        about("10 whom and the WAY of the first MINUTE of the first such (by whom, then WAY)");
        most(Texts.told("c0004;c0004;"), 1, 1, 2);
        most(Texts.told("c0005;c0004;"), 1, 1, 1);
        most(Texts.told("c0003;c0005;"), 1, 1, 11);
        most(Texts.told("c0003;c0004;"), 1, 1, 12);
        most(Texts.told("c0000;c0000;"), 3, 1, 0);
        most(Texts.told("c0000;c0000;s07;"), 3, 8, 10);
    }

    private static void mostStepsWithAll() {
        about("MOST STEPS of n MINUTES (0 .. 3) with all of them");
        // 1 is cold: LET now, or it has 3 and 4 are NEEDS.
        HandUnderTheChin x = Texts.told("c2008;c0004;m03;m03;m03;m03;m03;");
        due("cold 5", x.child(1, 4), 5);
        most(x, 1, 1, 2);
        most(x, 2, 2, 12);
        // The laugh first: 1 and 3 are NEEDS; the other way round it would not do.
        most(Texts.told("c0001;c5002;"), 2, 2, 12);
        most(Texts.told("c0001;c2000;c5002;"), 2, 1, 0);
        due("no minute by asking", x.count(1), 5);
        due("no step by asking", x.count(3), 0);
    }

    private static void mostStepsOfSix() {
        about("10 whom and the WAY");
        HandUnderTheChin x = Texts.told(FIVE_SHY + "c0004;");
        most(x, 0, 0, -4);
        most(x, 1, 1, 52);
        most(x, 2, 1, 0);
        // HELD (6), LET, LET.
        most(x, 3, 2, 50);
        x.feels(5, 0, 5);
        most(x, 1, 1, 51);
        most(Texts.told(ALL_AT_SIX), 3, 39, 1);
    }

    // ---- promises 13 and 14

    private static void turns(HandUnderTheChin x, int n, int swim, int held) {
        due("swim behind " + n, x.byTurns(n, 0), swim);
        due("held in " + n, x.byTurns(n, 1), held);
    }

    private static void byTurnsEdges() {
        about("n MINUTES (0 .. 99; till all SWIM): how many SWIM then; in how many one was HELD");
        turns(new HandUnderTheChin(), 0, 0, 0);
        turns(new HandUnderTheChin(), 99, 0, 0);
        HandUnderTheChin x = Texts.told("c0020;c0020;s07;");
        turns(x, 0, 1, 0);
        turns(x, 6, 1, 0);
        turns(x, 7, 2, 0);
        turns(x, 99, 2, 0);
        turns(Texts.told("c0000;c0000;s07;s17;"), 99, 2, 0);
        x = Texts.told(ALL_AT_SIX);
        for (int n = 0; n <= 6; n++) {
            turns(x, n, n, 0);
        }
        // 3 by each HELD, 1 less by the cold of the other five: 8 are NEEDS, and 0 has these in minute 25 first.
        x = Texts.told(Texts.repeat("c2900;", 6));
        turns(x, 1, 0, 1);
        turns(x, 24, 0, 24);
        turns(x, 25, 0, 24);
        due("100", x.byTurns(100, 0), -1);
        due("-1", x.byTurns(-1, 0), -1);
        due("nothing changed", x.count(1) + x.count(2) + x.count(4), 0);
    }

    private static void byTurnsRound() {
        about("each MINUTE the next one (by numbers from 0, round; who SWIMS is passed over)");
        // 0 and 2 alone are left: 0 swims in minute 1, 2 is HELD in 2 and 3 and swims in 4.
        HandUnderTheChin x = Texts.told("c0020;c0000;c0006;c0000;s06;s17;s26;s37;");
        turns(x, 1, 3, 0);
        turns(x, 2, 3, 1);
        turns(x, 3, 3, 2);
        turns(x, 4, 4, 2);
        // 1 and 5 in turns; from 5 it goes round to 1: LET to 6, LET to 6, LET, LET.
        x = Texts.told(Texts.repeat("c2020;", 6) + "s07;s15;s27;s37;s47;s55;");
        turns(x, 2, 4, 0);
        turns(x, 3, 5, 0);
        turns(x, 4, 6, 0);
        x = Texts.told(Texts.repeat("c2020;", 6) + "s07;s14;s27;s37;s47;s56;");
        turns(x, 1, 4, 0);
        turns(x, 2, 5, 0);
        turns(x, 4, 6, 0);
        // The turn begins with 0, whoever was asked about or taken last.
        x = Texts.told("c2020;c2020;s06;s16;");
        x.byTurns(1, 0);
        x.allSwim();
        Texts.numbers(x, 1, 0, 20, 20);
        due("0 first again", x.judge(1, 0), -4);
        turns(Texts.told("c2020;c2000;s06;"), 1, 1, 0);
    }

    private static void byTurnsWays() {
        about("LET if READY, else HELD");
        turns(Texts.told("c0010;s06;"), 1, 1, 0);
        turns(Texts.told("c0009;s06;"), 1, 0, 1);
        turns(Texts.told("c0009;s06;"), 2, 1, 1);
        // A finger (6 to 8 with 2, 4 times) would not swim sooner; HELD brings 6.
        turns(Texts.told("c6901;s06;"), 3, 0, 3);
        turns(Texts.told("c6901;s06;"), 4, 1, 3);
    }

    private static void allSwim() {
        about("behind how many (0 .. 99) all SWIM first; -4");
        due("nobody", new HandUnderTheChin().allSwim(), 0);
        due("all swim", Texts.told(Texts.repeat("c0000;", 6) + "s07;s17;s27;s37;s47;s57;").allSwim(), 0);
        due("behind 1", Texts.told("c0010;s06;").allSwim(), 1);
        due("behind 6", Texts.told(ALL_AT_SIX).allSwim(), 6);
        HandUnderTheChin x = Texts.told("c6202;c4303;c2902;c2707;c1704;c2414;");
        due("behind 99", x.allSwim(), 99);
        due("five behind 98", x.byTurns(98, 0), 5);
        due("six behind 99", x.byTurns(99, 0), 6);
        // A search found that this one needs 100.
        x = Texts.told("c5000;c2801;c5300;c2018;c3000;c2112;");
        due("not behind 99", x.allSwim(), -4);
        due("five behind 99", x.byTurns(99, 0), 5);
        due("never", Texts.told(Texts.repeat("c2900;", 6)).allSwim(), -4);
        due("no minute", x.count(1), 0);
    }

    private static void refused() {
        about("-1 no such one, one twice, a number out of its range");
        HandUnderTheChin x = Texts.told("c0020;c0020;s17;");
        for (int wild : new int[] {-1, 2, 6, Integer.MIN_VALUE, Integer.MAX_VALUE}) {
            due("alone(" + wild + ", 0)", x.alone(wild, 0), -1);
            due("alone(0, " + wild + ")", x.alone(0, wild), -1);
            due("neverHeld(" + wild + ")", x.neverHeld(wild), -1);
            due("mostSteps(0, " + wild + ")", x.mostSteps(0, wild), -1);
            due("byTurns(0, " + wild + ")", x.byTurns(0, wild), -1);
        }
        due("alone of who swims with a what of none", x.alone(1, 2), -1);
        for (int wild : new int[] {-1, 4, Integer.MIN_VALUE, Integer.MAX_VALUE}) {
            due("mostSteps(" + wild + ", 0)", x.mostSteps(wild, 0), -1);
        }
        for (int wild : new int[] {-1, 100, Integer.MIN_VALUE, Integer.MAX_VALUE}) {
            due("byTurns(" + wild + ", 1)", x.byTurns(wild, 1), -1);
        }
        due("alone of nobody", new HandUnderTheChin().alone(0, 0), -1);
        due("neverHeld of nobody", new HandUnderTheChin().neverHeld(0), -1);
    }
}
