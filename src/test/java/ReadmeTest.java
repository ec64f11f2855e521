/** The answers that README.md tells, call by call. */
public final class ReadmeTest {
    private static final Check CHECK = new Check("readme");

    public static void main(String[] args) {
        HandUnderTheChin x = new HandUnderTheChin();
        children(x);
        questions(x);
        image(x);
        CHECK.end();
    }

    private static void children(HandUnderTheChin x) {
        CHECK.due("keep(0, 1, 5, 4)", x.keep(0, 1, 5, 4), 0);
        CHECK.due("comes(0, 2)", x.comes(0, 2), 0);
        CHECK.due("minute(0, 2)", x.minute(0, 2), 2);
        CHECK.due("child(0, 3)", x.child(0, 3), 1);
        String text = "c0504;m11;t005;m02;";
        CHECK.due("row(1, 0, 19)", x.row(1, 0, text.length()), 0);
        for (int i = 0; i < text.length(); i++) {
            CHECK.due("put(1, " + i + ", ..)", x.put(1, i, text.charAt(i)), 0);
        }
        CHECK.due("bath(1)", x.bath(1), 4);
    }

    private static void questions(HandUnderTheChin x) {
        CHECK.due("ready()", x.ready(), 3);
        CHECK.due("alone(0, 0)", x.alone(0, 0), 6);
        CHECK.due("alone(0, 1)", x.alone(0, 1), 0);
        CHECK.due("mostSteps(3, 0)", x.mostSteps(3, 0), 5);
        CHECK.due("frights(0, 3, 2, 4, 0)", x.frights(0, 3, 2, 4, 0), 9);
        CHECK.due("frights(0, 3, 2, 4, 1)", x.frights(0, 3, 2, 4, 1), 16);
        CHECK.due("minute(2, 0)", x.minute(2, 0), -1);
        CHECK.due("mean(2)", x.mean(2), 1000000001L);
    }

    private static void image(HandUnderTheChin x) {
        CHECK.due("image()", x.image(), 3);
        CHECK.due("rest(3)", x.rest(3), 1);
        CHECK.due("restore()", x.restore(), 3);
        CHECK.due("child(0, 3)", x.child(0, 3), 2);
        CHECK.same("element of no SHELF", Texts.element(x, 8, 0), "IAE");
        CHECK.same("element of a KIND", Texts.element(x, 0, 0), "ISE");
    }
}
