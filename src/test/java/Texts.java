/** Short ways to put texts and numbers on a SHELF. */
final class Texts {
    private Texts() {
    }

    /** A ROW of bytes with a text. */
    static void write(HandUnderTheChin x, int d, String text) {
        numbers(x, d, 0, signs(text));
    }

    /** Writes the text on SHELF 0 and tells it. */
    static int tell(HandUnderTheChin x, String text) {
        write(x, 0, text);
        return x.bath(0);
    }

    static HandUnderTheChin told(String text) {
        HandUnderTheChin x = new HandUnderTheChin();
        if (tell(x, text) < 0) {
            throw new IllegalArgumentException("not a bath: " + text);
        }
        return x;
    }

    static void numbers(HandUnderTheChin x, int d, int sort, int... values) {
        if (x.row(d, sort, values.length) != 0) {
            throw new IllegalArgumentException("not a row");
        }
        for (int i = 0; i < values.length; i++) {
            x.put(d, i, values[i]);
        }
    }

    /** What element answers: "IAE", "ISE" or the number. */
    static String element(HandUnderTheChin x, int d, int i) {
        try {
            return Long.toString(x.element(d, i));
        } catch (IllegalArgumentException e) {
            return "IAE";
        } catch (IllegalStateException e) {
            return "ISE";
        }
    }

    /** All that can be read of a bath. */
    static String state(HandUnderTheChin x) {
        StringBuilder text = new StringBuilder();
        for (int what = 0; what <= 5; what++) {
            text.append(x.count(what)).append(' ');
        }
        for (int c = 0; c < x.count(0); c++) {
            text.append('|');
            for (int what = 0; what <= 4; what++) {
                text.append(x.child(c, what)).append(' ');
            }
        }
        return text.toString();
    }

    static String repeat(String part, int times) {
        return part.repeat(times);
    }

    private static int[] signs(String text) {
        int[] signs = new int[text.length()];
        for (int i = 0; i < signs.length; i++) {
            signs[i] = text.charAt(i);
        }
        return signs;
    }
}
