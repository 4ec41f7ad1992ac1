import java.util.HashSet;
import java.util.Set;

/** Counts and prints the answers that are not as due. */
final class Checks {
    private String sentence = "";
    private boolean isAsked = true;
    private final Set<String> sentences = new HashSet<>();
    private int wrong;
    private int asked;

    /** The answers that are asked for from here on are those that this sentence of the document makes due. */
    void sentence(String words) {
        dueAsked();
        sentences.add(words);
        sentence = "\"" + words + "\": ";
        isAsked = false;
    }

    void due(String call, long got, long want) {
        ask();
        if (got != want) {
            tellWrong(call + " answered " + got + ", due is " + want);
        }
    }

    void due(String call, boolean got, boolean want) {
        due(call, got ? 1 : 0, want ? 1 : 0);
    }

    void dueSame(String call, String got, String want) {
        ask();
        if (!got.equals(want)) {
            tellWrong(call + ": what is told is not the same");
        }
    }

    interface Call {
        long make();
    }

    /** Exactly that class of exception is due. */
    void dueThrow(String call, Class<? extends RuntimeException> want, Call made) {
        ask();
        String got;
        try {
            got = "answered " + made.make();
        } catch (RuntimeException e) {
            if (e.getClass() == want) {
                return;
            }
            got = "threw " + e.getClass().getSimpleName();
        }
        tellWrong(call + " " + got + ", due is " + want.getSimpleName());
    }

    void end() {
        dueAsked();
        System.out.println((sentences.isEmpty() ? "" : sentences.size() + " sentences, ")
                + asked + " answers asked for, " + wrong + " not as due");
        if (wrong != 0) {
            System.exit(1);
        }
    }

    private void ask() {
        asked++;
        isAsked = true;
    }

    /** A sentence that nothing was asked of has no test. */
    private void dueAsked() {
        if (!isAsked) {
            tellWrong("no answer was asked for");
        }
    }

    private void tellWrong(String words) {
        wrong++;
        if (wrong <= 50) {
            System.out.println(sentence + words);
        }
    }
}
