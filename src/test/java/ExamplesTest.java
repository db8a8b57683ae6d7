/** The document's four examples. */
public final class ExamplesTest {
    public static void main(String[] args) {
        Due due = new Due("ExamplesTest");
        twoProcessesAtTheFirstSplitter(due);
        programThatDoesNotReadTheDoor(due);
        scheduleAsText(due);
        explorationAndAStep(due);
        due.end();
    }

    private static void twoProcessesAtTheFirstSplitter(Due due) {
        RenamingGrid x = new RenamingGrid();
        due.is("step(0)", x.step(0), 0);
        due.is("step(1)", x.step(1), 0);
        due.is("step(0)", x.step(0), 0);
        due.is("step(0)", x.step(0), 0);
        due.is("step(0)", x.step(0), 3);
        due.is("splitterOf(0)", x.splitterOf(0), 2);
        due.is("step(1)", x.step(1), 2);
        due.is("splitterOf(1)", x.splitterOf(1), 1);
        due.is("soloName(0)", x.soloName(0), 2);
        due.is("soloName(1)", x.soloName(1), 1);
    }

    private static void programThatDoesNotReadTheDoor(Due due) {
        RenamingGrid x = new RenamingGrid();
        due.is("configure(2, 2, 1)", x.configure(2, 2, 1), 3);
        due.is("explore()", x.explore(), 49);
        due.is("violationCount()", x.violationCount(), 2);
        due.is("violationStep(0)", x.violationStep(0), 0);
        due.is("violationStep(2)", x.violationStep(2), 0);
        due.is("violationStep(3)", x.violationStep(3), 1);
        due.is("violationStep(6)", x.violationStep(6), -9);
    }

    private static void scheduleAsText(Due due) {
        RenamingGrid x = new RenamingGrid();
        due.is("append(48)", x.append(48), 1);
        due.is("append(42)", x.append(42), 2);
        due.is("append(57)", x.append(57), 3);
        due.is("append(59)", x.append(59), 4);
        due.is("runText()", x.runText(), 4);
        due.is("status(0)", x.status(0), 1);
        due.is("stepsOf(0)", x.stepsOf(0), 4);
        due.is("step(0)", x.step(0), -2);
        due.is("splitterOf(0)", x.splitterOf(0), 0);
    }

    private static void explorationAndAStep(Due due) {
        RenamingGrid x = new RenamingGrid();
        due.is("explore()", x.explore(), 165);
        due.is("violationCount()", x.violationCount(), 0);
        due.is("violationStep(0)", x.violationStep(0), -9);
        due.is("step(0)", x.step(0), 0);
        due.is("finalCount()", x.finalCount(), -2);
        due.is("undo()", x.undo(), 0);
        due.is("outcomeCount()", x.outcomeCount(), -2);
    }
}
