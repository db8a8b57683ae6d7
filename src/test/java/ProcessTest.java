/** Promises 10 to 15: status, splitterOf, phaseOf, stepsOf, soloSteps, soloName. */
public final class ProcessTest {
    public static void main(String[] args) {
        Due due = new Due("ProcessTest");
        wrongProcesses(due);
        everyStatus(due);
        namesDiagonalByDiagonal(due);
        soloAtEachPhase(due);
        soloBehindOthers(due);
        soloOutOfTheGrid(due);
        soloChangesNothing(due);
        due.end();
    }

    private static void wrongProcesses(Due due) {
        for (int processes = 1; processes <= 3; processes++) {
            RenamingGrid x = Due.grid(3, processes, 0);
            for (int p : new int[] {-1, processes, 3, 64, Integer.MIN_VALUE, Integer.MAX_VALUE}) {
                due.is("status(" + p + ")", x.status(p), -1);
                due.is("splitterOf(" + p + ")", x.splitterOf(p), -1);
                due.is("phaseOf(" + p + ")", x.phaseOf(p), -1);
                due.is("stepsOf(" + p + ")", x.stepsOf(p), -1);
                due.is("soloSteps(" + p + ")", x.soloSteps(p), -1);
                due.is("soloName(" + p + ")", x.soloName(p), -1);
            }
        }
    }

    private static void everyStatus(Due due) {
        RenamingGrid x = Due.grid(2, 3, 0);
        Due.steps(x, 0, 0, 0, 0, 1, 1, 1, 1, 1, 1, 2, 2, 2, 2);
        is(due, x, 0, new int[] {1, 0, 3, 4, 0, 0});
        is(due, x, 1, new int[] {1, 1, 3, 6, 0, 1});
        is(due, x, 2, new int[] {2, -9, -9, 4, 0, -9});
        x.undo();
        is(due, x, 2, new int[] {0, 1, 1, 3, 1, -9});
        x.crash(2);
        is(due, x, 2, new int[] {3, 1, 1, 3, 0, -9});
        x.undo();
        x.undo();
        is(due, x, 2, new int[] {0, 1, 0, 2, 2, -9});
        is(due, x, 0, new int[] {1, 0, 3, 4, 0, 0});
    }

    private static void is(Due due, RenamingGrid x, int process, int[] want) {
        due.is("status(" + process + ")", x.status(process), want[0]);
        due.is("splitterOf(" + process + ")", x.splitterOf(process), want[1]);
        due.is("phaseOf(" + process + ")", x.phaseOf(process), want[2]);
        due.is("stepsOf(" + process + ")", x.stepsOf(process), want[3]);
        due.is("soloSteps(" + process + ")", x.soloSteps(process), want[4]);
        due.is("soloName(" + process + ")", x.soloName(process), want[5]);
    }

    /** Two processes leave the first splitter together, then 0 alone leaves the next one. */
    private static void namesDiagonalByDiagonal(Due due) {
        int[] names = {3, 4, 4, 5};
        for (int size = 2; size <= 4; size++) {
            for (int way = 0; way < 4; way++) {
                RenamingGrid x = Due.grid(size, 3, 0);
                int first = way >> 1;
                int second = way & 1;
                leaveTogether(x, first);
                due.is("splitterOf(0)", x.splitterOf(0), 1 + first);
                due.is("splitterOf(1)", x.splitterOf(1), 1 + first);
                due.is("left(0, " + first + ")", x.left(0, first), 2);
                boolean out = size == 2;
                due.is("last step of way " + way, leaveAlone(x, second), out ? 4 : 2 + second);
                due.is("splitterOf(0), way " + way, x.splitterOf(0), out ? -9 : names[way]);
                due.is("phaseOf(0)", x.phaseOf(0), out ? -9 : 0);
                due.is("left behind, way " + way, x.left(1 + first, second), 1);
                due.is("left behind, other direction", x.left(1 + first, 1 - second), 0);
                due.is("entered(next)", x.entered(names[way]), out ? -1 : 1);
                due.is("soloName(0), way " + way, x.soloName(0), out ? -9 : names[way]);
                due.is("soloSteps(0)", x.soloSteps(0), out ? 0 : 4);
            }
        }
    }

    /** Processes 0 and 1 leave the first splitter, which 2 keeps. */
    private static void leaveTogether(RenamingGrid x, int direction) {
        if (direction == 0) {
            Due.steps(x, 2, 2, 2, 0, 0, 1, 1);
        } else {
            Due.steps(x, 0, 1, 2, 0, 1, 2, 0, 1, 0, 1);
        }
    }

    /** Process 0 leaves a splitter at which process 1 is, too; answers what its last step does. */
    private static int leaveAlone(RenamingGrid x, int direction) {
        if (direction == 0) {
            Due.steps(x, 1, 1, 1, 0);
        } else {
            Due.steps(x, 0, 0, 0, 1);
        }
        return x.step(0);
    }

    private static void soloAtEachPhase(Due due) {
        int[] lengths = {4, 3, 4};
        for (int program = 0; program <= 2; program++) {
            RenamingGrid x = Due.grid(3, 1, program);
            for (int left = lengths[program]; left >= 0; left--) {
                due.is("soloSteps(0), program " + program, x.soloSteps(0), left);
                due.is("soloName(0), program " + program, x.soloName(0), 0);
                x.step(0);
            }
        }
    }

    private static void soloBehindOthers(Due due) {
        RenamingGrid x = new RenamingGrid();
        Due.steps(x, 0, 0, 0);
        due.is("soloSteps(1) past a closed door", x.soloSteps(1), 6);
        due.is("soloName(1)", x.soloName(1), 1);
        due.is("soloSteps(0)", x.soloSteps(0), 1);
        due.is("soloName(0)", x.soloName(0), 0);
        x.step(1);
        due.is("soloSteps(0) after losing its owner's place", x.soloSteps(0), 5);
        due.is("soloName(0)", x.soloName(0), 2);
        due.is("soloSteps(1)", x.soloSteps(1), 5);
        x.crash(1);
        due.is("soloSteps(1) when crashed", x.soloSteps(1), 0);
        due.is("soloName(1) when crashed", x.soloName(1), -9);
        due.is("soloName(0)", x.soloName(0), 2);
    }

    private static void soloOutOfTheGrid(Due due) {
        RenamingGrid x = Due.grid(2, 3, 0);
        Due.steps(x, 0, 0, 0, 0, 1, 1, 1, 1, 1);
        due.is("soloSteps(2)", x.soloSteps(2), 4);
        due.is("soloName(2)", x.soloName(2), -9);
        due.is("soloSteps(1)", x.soloSteps(1), 1);
        due.is("soloName(1)", x.soloName(1), 1);
        Due.steps(x, 2, 2, 2);
        due.is("soloName(1): its place is taken", x.soloName(1), -9);
        due.is("soloSteps(1)", x.soloSteps(1), 1);
        x.step(1);
        due.is("status(1)", x.status(1), 2);
        due.is("soloSteps(1) when out", x.soloSteps(1), 0);
        due.is("soloName(1) when out", x.soloName(1), -9);
    }

    private static void soloChangesNothing(Due due) {
        RenamingGrid x = new RenamingGrid();
        due.is("explore()", x.explore(), 165);
        x.soloSteps(0);
        x.soloName(1);
        due.is("finalCount()", x.finalCount(), 8);
        due.is("undo()", x.undo(), -2);
        due.is("status(0)", x.status(0), 0);
        due.is("stepsOf(0)", x.stepsOf(0), 0);
        due.is("owner(0)", x.owner(0), -9);
        due.is("entered(0)", x.entered(0), 2);
    }
}
