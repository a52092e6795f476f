/** Compares answers with those that are due, prints the wrong ones, and ends a test. */
final class Checks {
    private String about = "";
    private int done = 0;
    private int wrong = 0;

    /** Says what the next checks are about, for the lines that are printed. */
    void about(String what) {
        about = what;
    }

    void due(String call, long got, long want) {
        done++;
        if (got != want) {
            wrong++;
            System.out.println(about + ": " + call + " answered " + got + ", due is " + want);
        }
    }

    void holds(String what, boolean is) {
        done++;
        if (!is) {
            wrong++;
            System.out.println(about + ": it does not hold that " + what);
        }
    }

    /** Prints how it went, and ends the program with exit code 1 if an answer was wrong. */
    void end() {
        System.out.println(wrong == 0 ? done + " answers are as due" : wrong + " of " + done + " answers are not as due");
        if (wrong != 0) {
            System.exit(1);
        }
    }
}
