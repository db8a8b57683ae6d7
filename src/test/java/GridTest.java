/** Promises 1 to 4: a new object, configure, nameCount, processCount. */
public final class GridTest {
    private static final int[][] WRONG = {
        {1, 1, 0}, {5, 1, 0}, {0, 2, 0}, {-3, 2, 0}, {Integer.MAX_VALUE, 2, 0}, {Integer.MIN_VALUE, 2, 0},
        {2, 0, 0}, {2, 4, 0}, {2, -1, 0}, {3, Integer.MAX_VALUE, 0}, {3, Integer.MIN_VALUE, 0},
        {2, 1, -1}, {2, 1, 3}, {4, 3, Integer.MAX_VALUE}, {4, 3, Integer.MIN_VALUE}, {0, 0, 9},
    };

    public static void main(String[] args) {
        Due due = new Due("GridTest");
        newObject(due);
        everyConfiguration(due);
        configureBeginsAnew(due);
        configureKeepsTheRest(due);
        wrongArgumentsChangeNothing(due);
        due.end();
    }

    private static void newObject(Due due) {
        RenamingGrid x = new RenamingGrid();
        due.is("clearText() of a new object", x.clearText(), 0);
        due.is("runText() of a new object", x.runText(), -10);
        due.is("undo() of a new object", x.undo(), -2);
        due.is("restore(0) of a new object", x.restore(0), -2);
        due.is("restore(1) of a new object", x.restore(1), -2);
        due.is("greatestDepth() of a new object", x.greatestDepth(), -2);
        isAsAtFirst(due, x, 3, 2);
        // Program 0: the door is read in phase 1, closed in phase 2, the owner read in phase 3.
        due.is("step(0)", x.step(0), 0);
        due.is("phaseOf(0)", x.phaseOf(0), 1);
        due.is("step(0)", x.step(0), 0);
        due.is("door(0)", x.door(0), 0);
        due.is("step(0)", x.step(0), 0);
        due.is("door(0)", x.door(0), 1);
        due.is("step(0)", x.step(0), 1);
    }

    private static void everyConfiguration(Due due) {
        RenamingGrid x = new RenamingGrid();
        int[] names = {0, 0, 3, 6, 10};
        for (int size = 2; size <= 4; size++) {
            for (int processes = 1; processes <= 3; processes++) {
                for (int program = 0; program <= 2; program++) {
                    due.is("configure(" + size + ", " + processes + ", " + program + ")",
                            x.configure(size, processes, program), names[size]);
                    due.is("nameCount()", x.nameCount(), names[size]);
                    due.is("processCount()", x.processCount(), processes);
                    x.step(processes - 1);
                    due.is("phase after a step of program " + program,
                            x.phaseOf(processes - 1), program == 1 ? 2 : 1);
                }
            }
        }
    }

    private static void configureBeginsAnew(Due due) {
        RenamingGrid x = Due.grid(4, 3, 0);
        // 0 is named 0 and 1 becomes crashed at 1; 2 has left 0 and 1 to the right.
        Due.steps(x, 0, 0, 0, 0, 1, 1, 1, 1, 1, 1, 2, 2, 2);
        x.crash(1);
        x.configure(4, 3, 0);
        isAsAtFirst(due, x, 4, 3);
        Due.steps(x, 0, 0, 0, 0, 1, 1, 1);
        x.configure(2, 1, 2);
        isAsAtFirst(due, x, 2, 1);
        x.configure(3, 2, 0);
        isAsAtFirst(due, x, 3, 2);
    }

    private static void isAsAtFirst(Due due, RenamingGrid x, int size, int processes) {
        due.is("nameCount()", x.nameCount(), size * (size + 1) / 2);
        due.is("processCount()", x.processCount(), processes);
        for (int p = 0; p < processes; p++) {
            due.is("status(" + p + ")", x.status(p), 0);
            due.is("splitterOf(" + p + ")", x.splitterOf(p), 0);
            due.is("phaseOf(" + p + ")", x.phaseOf(p), 0);
            due.is("stepsOf(" + p + ")", x.stepsOf(p), 0);
        }
        due.is("status(processes)", x.status(processes), -1);
        for (int s = 0; s < size * (size + 1) / 2; s++) {
            due.is("owner(" + s + ")", x.owner(s), -9);
            due.is("door(" + s + ")", x.door(s), 0);
            due.is("entered(" + s + ")", x.entered(s), s == 0 ? processes : 0);
            due.is("left(" + s + ", 0)", x.left(s, 0), 0);
            due.is("left(" + s + ", 1)", x.left(s, 1), 0);
        }
        due.is("owner(names)", x.owner(size * (size + 1) / 2), -1);
    }

    /** It is said only of registers, processes and counts that they are as at first. */
    private static void configureKeepsTheRest(Due due) {
        RenamingGrid x = new RenamingGrid();
        Due.type(x, "0;");
        x.step(1);
        due.is("save(1)", x.save(1), 2);
        due.is("configure(2, 3, 1)", x.configure(2, 3, 1), 3);
        due.is("append after configure()", x.append('1'), 3);
        due.is("clearText()", x.clearText(), 3);
        due.is("restore(1)", x.restore(1), 2);
        due.is("nameCount()", x.nameCount(), 6);
        due.is("stepsOf(1)", x.stepsOf(1), 1);
    }

    private static void wrongArgumentsChangeNothing(Due due) {
        RenamingGrid x = new RenamingGrid();
        x.step(1);
        due.is("explore()", x.explore() > 0 ? 1 : 0, 1);
        int depth = x.greatestDepth();
        for (int[] wrong : WRONG) {
            String call = "configure(" + wrong[0] + ", " + wrong[1] + ", " + wrong[2] + ")";
            due.is(call, x.configure(wrong[0], wrong[1], wrong[2]), -1);
        }
        due.is("nameCount()", x.nameCount(), 6);
        due.is("processCount()", x.processCount(), 2);
        due.is("stepsOf(1)", x.stepsOf(1), 1);
        due.is("phaseOf(1)", x.phaseOf(1), 1);
        due.is("greatestDepth()", x.greatestDepth(), depth);
        due.is("undo()", x.undo(), 0);
    }
}
