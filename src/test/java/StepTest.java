/** Promises 5 and 6: step and crash. */
public final class StepTest {
    public static void main(String[] args) {
        Due due = new Due("StepTest");
        aloneWithEachProgram(due);
        everyWayDown(due);
        everyWayRight(due);
        registersOfProgramTwo(due);
        wrongSteps(due);
        crashes(due);
        wrongCrashes(due);
        due.end();
    }

    private static void aloneWithEachProgram(Due due) {
        int[][] phases = {{1, 2, 3, 3}, {2, 3, 3}, {1, 2, 3, 3}};
        int[][] doors = {{0, 0, 1, 1}, {0, 1, 1}, {0, 0, 0, 1}};
        for (int program = 0; program <= 2; program++) {
            RenamingGrid x = Due.grid(2, 3, program);
            int last = phases[program].length - 1;
            for (int i = 0; i <= last; i++) {
                String after = " after step " + i + " of program " + program;
                due.is("step(2)" + after, x.step(2), i == last ? 1 : 0);
                due.is("phaseOf(2)" + after, x.phaseOf(2), phases[program][i]);
                due.is("status(2)" + after, x.status(2), i == last ? 1 : 0);
                due.is("owner(0)" + after, x.owner(0), 2);
                due.is("door(0)" + after, x.door(0), doors[program][i]);
                due.is("stepsOf(2)" + after, x.stepsOf(2), i + 1);
            }
            due.is("step(2) when named", x.step(2), -2);
            due.is("splitterOf(2)", x.splitterOf(2), 0);
        }
    }

    /** One process takes a splitter over before the other reads the owner. */
    private static void everyWayDown(Due due) {
        for (int program = 0; program <= 2; program++) {
            RenamingGrid x = Due.grid(2, 3, program);
            int before = program == 1 ? 2 : program == 0 ? 3 : 2;
            for (int i = 0; i < before; i++) {
                x.step(0);
                x.step(1);
            }
            due.is("owner(0)", x.owner(0), 1);
            due.is("step(0) down, program " + program, x.step(0), 3);
            due.is("splitterOf(0)", x.splitterOf(0), 2);
            due.is("phaseOf(0)", x.phaseOf(0), 0);
            due.is("status(0)", x.status(0), 0);
            due.is("left(0, 1)", x.left(0, 1), 1);
            due.is("left(0, 0)", x.left(0, 0), 0);
            due.is("entered(2)", x.entered(2), 1);
            due.is("entered(1)", x.entered(1), 0);
            // The other one follows it after a third has taken the first splitter over.
            x.step(2);
            due.is("step(1) down, program " + program, x.step(1), 3);
            due.is("step(0)", x.step(0), 0);
            due.is("step(1)", x.step(1), 0);
            for (int i = 1; i < before; i++) {
                x.step(0);
            }
            due.is("step(0) out of the grid, program " + program, x.step(0), 4);
            due.is("status(0)", x.status(0), 2);
            due.is("splitterOf(0)", x.splitterOf(0), -9);
            due.is("phaseOf(0)", x.phaseOf(0), -9);
            due.is("left(2, 1)", x.left(2, 1), 1);
            due.is("left(2, 0)", x.left(2, 0), 0);
            due.is("stepsOf(0)", x.stepsOf(0), 2 * before + 2);
            due.is("step(0) when out", x.step(0), -2);
            due.is("stepsOf(0)", x.stepsOf(0), 2 * before + 2);
        }
    }

    /** Past doors that others have closed, and out of the smallest grid. */
    private static void everyWayRight(Due due) {
        for (int size = 2; size <= 4; size++) {
            RenamingGrid x = Due.grid(size, 3, 0);
            Due.steps(x, 0, 0, 0);
            due.is("step(1)", x.step(1), 0);
            due.is("owner(0) is overwritten", x.owner(0), 1);
            due.is("step(1) right", x.step(1), 2);
            due.is("splitterOf(1)", x.splitterOf(1), 1);
            due.is("phaseOf(1)", x.phaseOf(1), 0);
            due.is("status(1)", x.status(1), 0);
            due.is("left(0, 0)", x.left(0, 0), 1);
            due.is("left(0, 1)", x.left(0, 1), 0);
            due.is("entered(1)", x.entered(1), 1);
            due.is("entered(2)", x.entered(2), 0);
        }
        RenamingGrid x = Due.grid(2, 3, 0);
        Due.steps(x, 0, 0, 0, 0, 1, 1, 1, 1, 1, 1);
        due.is("status(1)", x.status(1), 1);
        due.is("splitterOf(1)", x.splitterOf(1), 1);
        Due.steps(x, 2, 2, 2);
        due.is("step(2) out to the right", x.step(2), 4);
        due.is("status(2)", x.status(2), 2);
        due.is("splitterOf(2)", x.splitterOf(2), -9);
        due.is("left(1, 0)", x.left(1, 0), 1);
        due.is("left(1, 1)", x.left(1, 1), 0);
        due.is("left(0, 0)", x.left(0, 0), 2);
        due.is("entered(1)", x.entered(1), 2);
    }

    /** The owner is read before the door is closed, so a second one can come in between. */
    private static void registersOfProgramTwo(Due due) {
        RenamingGrid x = Due.grid(3, 2, 2);
        Due.steps(x, 0, 0);
        due.is("step(0) reads its own number", x.step(0), 0);
        due.is("phaseOf(0)", x.phaseOf(0), 3);
        due.is("door(0)", x.door(0), 0);
        Due.steps(x, 1, 1);
        due.is("phaseOf(1)", x.phaseOf(1), 2);
        due.is("step(0)", x.step(0), 1);
        due.is("door(0)", x.door(0), 1);
        due.is("step(1)", x.step(1), 0);
        due.is("step(1)", x.step(1), 1);
        due.is("splitterOf(0)", x.splitterOf(0), 0);
        due.is("splitterOf(1)", x.splitterOf(1), 0);
    }

    private static void wrongSteps(Due due) {
        RenamingGrid x = new RenamingGrid();
        for (int p : new int[] {-1, 2, 3, 100, Integer.MIN_VALUE, Integer.MAX_VALUE}) {
            due.is("step(" + p + ")", x.step(p), -1);
        }
        x.configure(3, 1, 0);
        due.is("step(1) of one process", x.step(1), -1);
        x.crash(0);
        due.is("step(0) when crashed", x.step(0), -2);
        due.is("stepsOf(0)", x.stepsOf(0), 0);
        due.is("owner(0)", x.owner(0), -9);
        due.is("undo() after calls that failed", x.undo(), 1);
    }

    private static void crashes(Due due) {
        RenamingGrid x = Due.grid(3, 3, 0);
        Due.steps(x, 1, 1, 1);
        due.is("crash(1)", x.crash(1), 2);
        due.is("status(1)", x.status(1), 3);
        due.is("splitterOf(1)", x.splitterOf(1), 0);
        due.is("phaseOf(1)", x.phaseOf(1), 3);
        due.is("stepsOf(1)", x.stepsOf(1), 3);
        due.is("owner(0)", x.owner(0), 1);
        due.is("door(0)", x.door(0), 1);
        due.is("entered(0)", x.entered(0), 3);
        due.is("left(0, 1)", x.left(0, 1), 0);
        due.is("crash(0)", x.crash(0), 1);
        due.is("crash(2)", x.crash(2), 0);
        due.is("phaseOf(2)", x.phaseOf(2), 0);
    }

    private static void wrongCrashes(Due due) {
        RenamingGrid x = new RenamingGrid();
        for (int p : new int[] {-1, 2, 3, Integer.MIN_VALUE, Integer.MAX_VALUE}) {
            due.is("crash(" + p + ")", x.crash(p), -1);
        }
        Due.steps(x, 0, 0, 0, 0);
        due.is("crash(0) when named", x.crash(0), -2);
        due.is("status(0)", x.status(0), 1);
        due.is("crash(1)", x.crash(1), 0);
        due.is("crash(1) again", x.crash(1), -2);
        due.is("undo()", x.undo(), 4);
        due.is("status(1)", x.status(1), 0);
        x.configure(2, 3, 0);
        // 2 finds both doors of its way closed and becomes out.
        Due.steps(x, 0, 0, 0, 0, 1, 1, 1, 1, 1, 1, 2, 2, 2, 2);
        due.is("crash(2) when out", x.crash(2), -2);
        due.is("status(2)", x.status(2), 2);
    }
}
