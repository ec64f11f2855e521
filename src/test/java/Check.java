import java.util.HashSet;
import java.util.Set;

/** Counts and prints answers that are not as due; end() leaves with 1 if there was one. */
final class Check {
    private final String name;
    private String words = "";
    private final Set<String> sentences = new HashSet<>();
    private int looked = 0;
    private int wrong = 0;

    Check(String name) {
        this.name = name;
    }

    /** The words of DOC.md that the answers from here on are looked at by. */
    void about(String words) {
        this.words = " (" + words + ")";
        sentences.add(words);
    }

    void due(String call, long got, long want) {
        same(call, Long.toString(got), Long.toString(want));
    }

    void same(String call, String got, String want) {
        looked++;
        if (!got.equals(want)) {
            wrong++;
            if (wrong <= 50) {
                System.out.println(name + words + ": " + call + " answered " + got + ", due is " + want);
            }
        }
    }

    void end() {
        String told = sentences.isEmpty() ? "" : " by " + sentences.size() + " sentences";
        System.out.println(name + ": " + looked + " answers looked at" + told + ", " + wrong + " wrong");
        if (wrong != 0 || looked == 0) {
            System.exit(1);
        }
    }
}
