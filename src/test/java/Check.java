/** Counts and prints the calls whose answer is not the one that is due. */
final class Check {
    private int wrong = 0;
    private int calls = 0;
    private String about = "";

    void about(String text) {
        about = text;
    }

    String about() {
        return about;
    }

    void due(String call, long got, long want) {
        calls++;
        if (got != want) {
            wrong++;
            System.out.println(about + ": " + call + " answered " + got + ", due is " + want);
        }
    }

    void is(String claim, boolean holds) {
        calls++;
        if (!holds) {
            wrong++;
            System.out.println(about + ": does not hold: " + claim);
        }
    }

    /** Ends the program with exit code 1 if there was a wrong answer. */
    void end() {
        System.out.println(calls + " checks, " + wrong + " wrong");
        if (wrong != 0 || calls == 0) {
            System.exit(1);
        }
    }
}
