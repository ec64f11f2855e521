/** Promises 9 to 14: who can be let go. */
public final class LetGoTest {
    private static final Check CHECK = new Check("let go");

    public static void main(String[] args) {
        ready();
        alone();
        neverHeld();
        mostSteps();
        byTurns();
        allSwim();
        CHECK.end();
    }

    private static void due(String call, long got, long want) {
        CHECK.due(call, got, want);
    }

    private static void ready() {
        due("nobody", new HandUnderTheChin().ready(), 0);
        // NEEDS: CHILD 4, BOLD 2, DIVER 1, SHY 8; the fifth SWIMS.
        HandUnderTheChin x = Texts.told("c0004;c1001;c7001;c2008;c0020;s47;");
        due("bits", x.ready(), 1 + 4 + 8);
        x.feels(0, 0, 3);
        due("one less", x.ready(), 4 + 8);
        x.feels(0, 0, 20);
        x.feels(0, 1, 6);
        due("the last step", x.ready(), 1 + 4 + 8);
        due("it changes nothing", x.count(1), 0);
    }

    private static void alone() {
        HandUnderTheChin x = Texts.told("c0020;");
        due("trust enough", x.alone(0, 0), 7);
        due("the finger comes first", x.alone(0, 1), 1);
        x = Texts.told("c2020;");
        due("a shy one with trust", x.alone(0, 0), 7);
        x.feels(0, 1, 6);
        due("only let helps", x.alone(0, 1), 2);
        x.feels(0, 0, 19);
        due("held and let", x.alone(0, 0), 2);
        due("held first", x.alone(0, 1), 0);
        x.feels(0, 1, 7);
        due("swims", x.alone(0, 0), 0);
        due("no way", x.alone(0, 1), -4);
        // BOLD: 4 times HELD, then 7 times FINGERED, each a STEP: TRUST 5 .. 11 is NEEDS and 3 then.
        x = Texts.told("c1000;");
        due("a bold one", x.alone(0, 0), 11);
        due("held is first among its ways", x.alone(0, 1), 0);
        due("cold is aside", Texts.tell(x, "c0000;m10;m10;m10;m10;m10;"), 6);
        due("a bold one", x.alone(0, 0), 11);
        due("alone(0, 2)", x.alone(0, 2), -1);
        due("alone(0, -1)", x.alone(0, -1), -1);
        due("alone(2, 0)", x.alone(2, 0), -1);
        due("alone(-1, 1)", x.alone(-1, 1), -1);
    }

    private static void neverHeld() {
        HandUnderTheChin x = Texts.told("c6900;");
        due("a clinger held", x.alone(0, 0), 8);
        due("a clinger not held", x.neverHeld(0), 9);
        x.feels(0, 1, 7);
        due("swims", x.neverHeld(0), 0);
        due("neverHeld(1)", x.neverHeld(1), -1);
        due("neverHeld(-1)", x.neverHeld(-1), -1);
    }

    private static void mostSteps() {
        HandUnderTheChin nobody = new HandUnderTheChin();
        due("nobody", nobody.mostSteps(3, 0), 0);
        due("nobody", nobody.mostSteps(3, 1), -4);
        HandUnderTheChin x = Texts.told("c0000;c0004;");
        due("none", x.mostSteps(0, 0), 0);
        due("none", x.mostSteps(0, 1), -4);
        due("one", x.mostSteps(1, 0), 1);
        due("let the second", x.mostSteps(1, 1), 12);
        // A step needs 5 then: HELD and LET, or FINGERED (6) and LET after LET.
        due("two", x.mostSteps(2, 0), 1);
        due("any minute ahead of the let", x.mostSteps(2, 1), 0);
        due("three", x.mostSteps(3, 0), 2);
        due("held, let, let", x.mostSteps(3, 1), 10);
        due("nothing changed", x.count(1), 0);
        // The laugh of one makes the other ready.
        x = Texts.told("c5002;c0001;");
        due("a laugh helps", x.mostSteps(2, 0), 2);
        due("the laugher first", x.mostSteps(2, 1), 2);
        x = Texts.told("c0020;c0020;s06;s17;");
        due("one step is left", x.mostSteps(3, 0), 14);
        due("fingered is ahead of let", x.mostSteps(1, 1), 1);
        x.feels(0, 1, 7);
        due("nobody is left", x.mostSteps(3, 0), 14);
        due("nobody is left", x.mostSteps(3, 1), -4);
        due("mostSteps(4, 0)", x.mostSteps(4, 0), -1);
        due("mostSteps(-1, 0)", x.mostSteps(-1, 0), -1);
        due("mostSteps(1, 2)", x.mostSteps(1, 2), -1);
        due("mostSteps(1, -1)", x.mostSteps(1, -1), -1);
    }

    private static void byTurns() {
        due("nobody", new HandUnderTheChin().byTurns(99, 0), 0);
        due("nobody", new HandUnderTheChin().byTurns(99, 1), 0);
        HandUnderTheChin x = Texts.told("c0003;c0010;s16;");
        // 0 held (5), 1 let and swims (0 has 6 by it), then 0 let to STEP 3, held, ..
        due("one minute", x.byTurns(1, 0), 0);
        due("held once", x.byTurns(1, 1), 1);
        due("two minutes", x.byTurns(2, 0), 1);
        due("held once", x.byTurns(2, 1), 1);
        due("five minutes", x.byTurns(5, 1), 1);
        due("held again: 6 is less than 7", x.byTurns(6, 1), 2);
        // Steps 3 .. 6 need 7 .. 10: HELD, LET, LET, HELD, LET, LET.
        due("held three times", x.byTurns(99, 1), 3);
        due("all swim", x.byTurns(11, 0), 2);
        due("not before", x.byTurns(10, 0), 1);
        due("byTurns(100, 0)", x.byTurns(100, 0), -1);
        due("byTurns(-1, 0)", x.byTurns(-1, 0), -1);
        due("byTurns(1, 2)", x.byTurns(1, 2), -1);
        due("byTurns(1, -1)", x.byTurns(1, -1), -1);
        due("none", x.byTurns(0, 0), 0);
        due("nothing changed", x.count(1), 0);
    }

    private static void allSwim() {
        due("nobody", new HandUnderTheChin().allSwim(), 0);
        HandUnderTheChin x = Texts.told("c0003;c0010;s16;");
        due("behind eleven", x.allSwim(), 11);
        x.feels(1, 1, 7);
        due("one by itself: held (5), let, let, held, ..", x.allSwim(), 11);
        x.feels(0, 1, 7);
        due("all swim now", x.allSwim(), 0);
        due("behind 99", Texts.told("c6202;c4303;c2902;c2707;c1704;c2414;").allSwim(), 99);
        due("not behind 98", Texts.told("c6202;c4303;c2902;c2707;c1704;c2414;").byTurns(98, 0), 5);
        // Six shy ones lose more by the cold than the one turn in six gives.
        x = Texts.told(Texts.repeat("c2900;", 6));
        due("never till 99", x.allSwim(), -4);
    }
}
