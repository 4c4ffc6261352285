import java.util.function.IntConsumer;

/** Counts the tests and their answers, and tells each answer that is not as due. */
final class Check {
    private int tests = 0;
    private int asked = 0;
    private int wrong = 0;
    private String name = "";

    /** One test by its name, most often the document's sentence; the next one runs if it fails. */
    void test(String sentence, Runnable body) {
        tests++;
        name = sentence;
        int askedBefore = asked;
        try {
            body.run();
        } catch (RuntimeException thrown) {
            tell(thrown + " ended the test, at " + thrown.getStackTrace()[0]);
        }
        if (asked == askedBefore) {
            tell("nothing was asked");
        }
        name = "";
    }

    void same(String what, long got, long want) {
        asked++;
        if (got != want) {
            tell(what + " answered " + got + ", due is " + want);
        }
    }

    /** Two rows of words; the first one that differs is told. */
    void sameWords(String what, String got, String want) {
        asked++;
        String[] gotWords = got.split(" ");
        String[] wantWords = want.split(" ");
        int words = Math.min(gotWords.length, wantWords.length);
        for (int i = 0; i < words; i++) {
            if (!gotWords[i].equals(wantWords[i])) {
                tell(what + ": " + gotWords[i] + ", due is " + wantWords[i]);
                return;
            }
        }
        if (gotWords.length != wantWords.length) {
            tell(what + ": " + gotWords.length + " words, due are " + wantWords.length);
        }
    }

    void takes(String what, Runnable call) {
        asked++;
        try {
            call.run();
        } catch (RuntimeException thrown) {
            tell(what + " threw " + thrown + ", due is nothing");
        }
    }

    void refuses(Class<? extends RuntimeException> kind, String what, Runnable call) {
        asked++;
        try {
            call.run();
        } catch (RuntimeException thrown) {
            if (thrown.getClass() != kind) {
                tell(what + " threw " + thrown + ", due is " + kind.getSimpleName());
            }
            return;
        }
        tell(what + " threw nothing, due is " + kind.getSimpleName());
    }

    /** The last values that are taken and the first that are refused, on both sides and far out. */
    void takesOnly(int least, int most, Class<? extends RuntimeException> kind, String what,
            IntConsumer call) {
        for (int value : new int[] {least, most}) {
            takes(what + " " + value, () -> call.accept(value));
        }
        for (int value : new int[] {least - 1, most + 1, Integer.MIN_VALUE, Integer.MAX_VALUE}) {
            refuses(kind, what + " " + value, () -> call.accept(value));
        }
    }

    boolean isWrong() {
        return wrong > 0;
    }

    void end() {
        String before = tests > 0 ? tests + " tests, " : "";
        System.out.println(before + asked + " answers, " + wrong + " wrong");
        if (wrong > 0 || asked == 0) {
            System.exit(1);
        }
    }

    private void tell(String text) {
        wrong++;
        System.out.println(name.isEmpty() ? text : "[" + name + "] " + text);
    }
}
