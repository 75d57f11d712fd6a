/** Counts and prints the answers that are not the ones that are due, each under the sentence that asks for it. */
final class Check {
    interface Call {
        long answer();
    }

    private int wrong = 0;
    private int sentences = 0;
    private String sentence = "";

    /** What follows is due by this sentence of the document. */
    void sentence(String text) {
        sentences++;
        sentence = "[" + text + "] ";
    }

    void due(String call, long got, long want) {
        if (got != want) {
            report(call, String.valueOf(got), String.valueOf(want));
        }
    }

    void dueThrow(String call, Class<? extends RuntimeException> want, Call made) {
        String got;
        try {
            got = String.valueOf(made.answer());
        } catch (RuntimeException e) {
            if (e.getClass() == want) {
                return;
            }
            got = "throws." + e.getClass().getSimpleName();
        }
        report(call, got, "throws." + want.getSimpleName());
    }

    private void report(String call, String got, String want) {
        wrong++;
        System.out.println(sentence + call + " answered " + got + ", due is " + want);
    }

    int wrong() {
        return wrong;
    }

    void end(String name) {
        String what = sentences == 0 ? "" : " (" + sentences + " sentences)";
        System.out.println(name + ": " + (wrong == 0 ? "all answers are as due" : wrong + " answers are not as due") + what);
        if (wrong != 0) {
            System.exit(1);
        }
    }
}
