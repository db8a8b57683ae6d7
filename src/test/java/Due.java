/** Compares answers with those that are due, and tells the others. */
final class Due {
    /** Far more than any test needs: a call that does not end is wrong, too. */
    private static final int MOST_SECONDS = 200;

    private final String test;
    private int checked;
    private int wrong;

    Due(String test) {
        this.test = test;
        Thread guard = new Thread(this::endWhenTooLate);
        guard.setDaemon(true);
        guard.start();
    }

    private void endWhenTooLate() {
        try {
            Thread.sleep(MOST_SECONDS * 1000L);
            System.out.println(test + ": a call did not end");
            Runtime.getRuntime().halt(1);
        } catch (InterruptedException e) {
            Thread.currentThread().interrupt();
        }
    }

    void is(String call, long got, long want) {
        checked++;
        if (got != want) {
            wrong++;
            System.out.println(test + ": " + call + " answered " + got + ", due is " + want);
        }
    }

    void holds(String claim, boolean got) {
        checked++;
        if (!got) {
            wrong++;
            System.out.println(test + ": it does not hold that " + claim);
        }
    }

    int wrong() {
        return wrong;
    }

    /** Ends the run of the test: with exit code 1 if an answer was wrong. */
    void end() {
        System.out.println(test + ": " + checked + " answers, " + wrong + " wrong");
        if (wrong != 0 || checked == 0) {
            System.exit(1);
        }
    }

    /** Appends a text, whose characters count towards the calls. */
    static void type(RenamingGrid grid, String text) {
        for (int i = 0; i < text.length(); i++) {
            grid.append(text.charAt(i));
        }
    }

    static void steps(RenamingGrid grid, int... processes) {
        for (int process : processes) {
            grid.step(process);
        }
    }

    static RenamingGrid grid(int size, int processes, int program) {
        RenamingGrid grid = new RenamingGrid();
        grid.configure(size, processes, program);
        return grid;
    }
}
