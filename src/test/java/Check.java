/** Counts the answers that are not as due, and tells them. */
final class Check {
    private int asked = 0;
    private int wrong = 0;

    void same(String what, long got, long want) {
        asked++;
        if (got != want) {
            tell(what + " answered " + got + ", due is " + want);
        }
    }

    void refuses(Class<? extends RuntimeException> kind, String what, Runnable call) {
        asked++;
        try {
            call.run();
        } catch (RuntimeException thrown) {
            if (thrown.getClass() != kind) {
                tell(what + " threw " + thrown + ", due is " + kind.getSimpleName());
            }
            return;
        }
        tell(what + " threw nothing, due is " + kind.getSimpleName());
    }

    boolean isWrong() {
        return wrong > 0;
    }

    void end() {
        System.out.println(asked + " answers, " + wrong + " wrong");
        if (wrong > 0 || asked == 0) {
            System.exit(1);
        }
    }

    private void tell(String text) {
        wrong++;
        System.out.println(text);
    }
}
