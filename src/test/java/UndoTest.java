/** Promises 28 to 30: undo, save, restore. */
public final class UndoTest {
    public static void main(String[] args) {
        Due due = new Due("UndoTest");
        nothingSaved(due);
        whatSavesAState(due);
        whatSavesNone(due);
        atMostEight(due);
        allOfTheState(due);
        wrongSlots(due);
        slots(due);
        exitsInBothDirections(due);
        restoreDiscardsWhatWasSaved(due);
        countsOfRunning(due);
        theTextIsNoPartOfTheState(due);
        due.end();
    }

    private static void nothingSaved(Due due) {
        RenamingGrid x = new RenamingGrid();
        due.is("undo()", x.undo(), -2);
        x.step(0);
        due.is("undo()", x.undo(), 0);
        due.is("undo()", x.undo(), -2);
        due.is("stepsOf(0)", x.stepsOf(0), 0);
    }

    private static void whatSavesAState(Due due) {
        RenamingGrid x = new RenamingGrid();
        x.configure(2, 3, 1);
        x.step(2);
        Due.type(x, "1*2;0;");
        x.runText();
        x.crash(2);
        due.is("undo() of crash()", x.undo(), 3);
        due.is("status(2)", x.status(2), 0);
        due.is("stepsOf(1)", x.stepsOf(1), 2);
        due.is("undo() of runText()", x.undo(), 2);
        due.is("stepsOf(1)", x.stepsOf(1), 0);
        due.is("stepsOf(0)", x.stepsOf(0), 0);
        due.is("stepsOf(2)", x.stepsOf(2), 1);
        due.is("owner(0)", x.owner(0), 2);
        due.is("door(0)", x.door(0), 0);
        due.is("undo() of step()", x.undo(), 1);
        due.is("owner(0)", x.owner(0), -9);
        due.is("processCount()", x.processCount(), 3);
        due.is("undo() of configure()", x.undo(), 0);
        due.is("processCount()", x.processCount(), 2);
        due.is("nameCount()", x.nameCount(), 6);
        x.step(0);
        due.is("phaseOf(0): program 0 again", x.phaseOf(0), 1);
    }

    private static void whatSavesNone(Due due) {
        RenamingGrid x = new RenamingGrid();
        x.step(5);
        x.crash(-1);
        x.configure(9, 9, 9);
        x.runText();
        x.append('0');
        x.runText();
        x.clearText();
        x.explore();
        x.save(0);
        x.soloSteps(0);
        x.soloName(0);
        x.status(0);
        due.is("undo()", x.undo(), -2);
        x.crash(0);
        x.step(0);
        x.crash(0);
        due.is("undo()", x.undo(), 0);
        due.is("status(0)", x.status(0), 0);
    }

    private static void atMostEight(Due due) {
        for (int changes = 1; changes <= 20; changes++) {
            RenamingGrid x = Due.grid(4, 3, 0);
            x.save(0);
            x.restore(0);
            int made = 0;
            for (int i = 0; i < changes; i++) {
                made += x.step(i % 3) >= 0 ? 1 : 0;
            }
            int kept = Math.min(made, 8);
            int steps = made;
            for (int left = kept - 1; left >= 0; left--) {
                due.is("undo() after " + changes, x.undo(), left);
                steps--;
                due.is("steps after undo()", x.stepsOf(0) + x.stepsOf(1) + x.stepsOf(2), steps);
            }
            due.is("undo() after all", x.undo(), -2);
            due.is("steps left", x.stepsOf(0) + x.stepsOf(1) + x.stepsOf(2), made - kept);
        }
        RenamingGrid x = new RenamingGrid();
        for (int i = 0; i < 30; i++) {
            x.configure(2 + i % 3, 1 + i % 2, 0);
        }
        due.is("undo()", x.undo(), 7);
        due.is("nameCount()", x.nameCount(), 6);
        x.configure(4, 3, 2);
        due.is("undo()", x.undo(), 7);
        due.is("undo()", x.undo(), 6);
        due.is("nameCount()", x.nameCount(), 3);
    }

    /** Everything that the state consists of comes back, whatever was done in between. */
    private static void allOfTheState(Due due) {
        RenamingGrid x = new RenamingGrid();
        x.configure(3, 3, 2);
        Due.steps(x, 0, 1, 0, 1, 0, 1, 1);
        x.crash(2);
        x.save(0);
        x.configure(2, 1, 1);
        due.is("undo()", x.undo(), 7);
        isThatState(due, "undo()", x);
        x.step(0);
        x.save(1);
        due.is("restore(0)", x.restore(0), 1);
        isThatState(due, "restore(0)", x);
        x.configure(4, 2, 0);
        due.is("restore(0)", x.restore(0), 1);
        isThatState(due, "restore(0) after configure()", x);
        due.is("restore(1)", x.restore(1), 1);
        due.is("stepsOf(0)", x.stepsOf(0), 4);
    }

    /** 0 went down from 0 to 2, 1 is named 0, 2 crashed before a step; program 2. */
    private static void isThatState(Due due, String after, RenamingGrid x) {
        due.is("nameCount() after " + after, x.nameCount(), 6);
        due.is("processCount() after " + after, x.processCount(), 3);
        due.is("status(0)", x.status(0), 0);
        due.is("status(1)", x.status(1), 1);
        due.is("status(2)", x.status(2), 3);
        due.is("splitterOf(0)", x.splitterOf(0), 2);
        due.is("splitterOf(1)", x.splitterOf(1), 0);
        due.is("phaseOf(0)", x.phaseOf(0), 0);
        due.is("phaseOf(1)", x.phaseOf(1), 3);
        due.is("stepsOf(0)", x.stepsOf(0), 3);
        due.is("stepsOf(1)", x.stepsOf(1), 4);
        due.is("stepsOf(2)", x.stepsOf(2), 0);
        due.is("owner(0)", x.owner(0), 1);
        due.is("door(0)", x.door(0), 1);
        due.is("door(2)", x.door(2), 0);
        due.is("entered(0)", x.entered(0), 3);
        due.is("entered(2)", x.entered(2), 1);
        due.is("left(0, 1)", x.left(0, 1), 1);
        due.is("left(0, 0)", x.left(0, 0), 0);
        due.is("soloName(0)", x.soloName(0), 2);
        due.is("finalCount() after " + after, x.finalCount(), -2);
        due.is("explore()", x.explore(), 5);
        due.is("outcomeCount()", x.outcomeCount(), 1);
    }

    private static void wrongSlots(Due due) {
        RenamingGrid x = new RenamingGrid();
        for (int slot : new int[] {-1, 2, 3, Integer.MIN_VALUE, Integer.MAX_VALUE}) {
            due.is("save(" + slot + ")", x.save(slot), -1);
            due.is("restore(" + slot + ")", x.restore(slot), -1);
        }
        x.step(0);
        due.is("restore(0) of an empty slot", x.restore(0), -2);
        due.is("restore(1) of an empty slot", x.restore(1), -2);
        due.is("save(1)", x.save(1), 2);
        due.is("restore(0) is still empty", x.restore(0), -2);
        due.is("undo() after all that", x.undo(), 0);
    }

    private static void slots(Due due) {
        RenamingGrid x = new RenamingGrid();
        x.step(0);
        due.is("save(0)", x.save(0), 2);
        x.crash(1);
        due.is("save(1)", x.save(1), 1);
        x.step(0);
        due.is("restore(0)", x.restore(0), 2);
        due.is("stepsOf(0)", x.stepsOf(0), 1);
        due.is("status(1)", x.status(1), 0);
        due.is("restore(1)", x.restore(1), 1);
        due.is("status(1)", x.status(1), 3);
        x.step(0);
        due.is("restore(1): the copy is kept", x.restore(1), 1);
        due.is("stepsOf(0)", x.stepsOf(0), 1);
        x.step(0);
        x.undo();
        due.is("restore(1): undo() doesn't touch it", x.restore(1), 1);
        due.is("stepsOf(0)", x.stepsOf(0), 1);
        Due.steps(x, 0, 0);
        due.is("save(0) again", x.save(0), 1);
        x.configure(2, 2, 0);
        due.is("restore(0): the later one", x.restore(0), 1);
        due.is("stepsOf(0)", x.stepsOf(0), 3);
    }

    private static void exitsInBothDirections(Due due) {
        RenamingGrid x = Due.grid(2, 3, 0);
        Due.type(x, "0;1;0;0;1*2;2*9;0*9;1*9;");
        due.is("runText()", x.runText(), 18);
        x.save(0);
        x.configure(2, 3, 0);
        due.is("left(0, 0)", x.left(0, 0), 0);
        due.is("left(0, 1)", x.left(0, 1), 0);
        due.is("undo()", x.undo(), 2);
        exitsAreThose(due, "undo()", x);
        due.is("undo() of runText()", x.undo(), 1);
        due.is("left(0, 0)", x.left(0, 0), 0);
        due.is("left(0, 1)", x.left(0, 1), 0);
        due.is("entered(1)", x.entered(1), 0);
        due.is("restore(0)", x.restore(0), 0);
        exitsAreThose(due, "restore(0)", x);
    }

    private static void exitsAreThose(Due due, String after, RenamingGrid x) {
        due.is("left(0, 0) after " + after, x.left(0, 0), 2);
        due.is("left(0, 1) after " + after, x.left(0, 1), 1);
        due.is("left(1, 0) after " + after, x.left(1, 0), 1);
        due.is("left(2, 1) after " + after, x.left(2, 1), 0);
        due.is("entered(1) after " + after, x.entered(1), 2);
        due.is("entered(2) after " + after, x.entered(2), 1);
    }

    private static void restoreDiscardsWhatWasSaved(Due due) {
        RenamingGrid x = new RenamingGrid();
        x.step(0);
        x.save(0);
        x.step(0);
        x.step(1);
        due.is("restore(0)", x.restore(0), 2);
        due.is("undo()", x.undo(), -2);
        due.is("stepsOf(0)", x.stepsOf(0), 1);
        x.step(1);
        due.is("undo()", x.undo(), 0);
        due.is("stepsOf(0)", x.stepsOf(0), 1);
        due.is("stepsOf(1)", x.stepsOf(1), 0);
        x.step(1);
        due.is("restore(1) fails", x.restore(1), -2);
        due.is("undo() is still possible", x.undo(), 0);
    }

    private static void countsOfRunning(Due due) {
        RenamingGrid x = Due.grid(2, 3, 0);
        due.is("save(0)", x.save(0), 3);
        Due.steps(x, 0, 0, 0, 0);
        due.is("save(1) with one named", x.save(1), 2);
        x.crash(1);
        due.is("save(1) with one crashed, too", x.save(1), 1);
        due.is("restore(1)", x.restore(1), 1);
        x.crash(2);
        due.is("save(1)", x.save(1), 0);
        due.is("restore(1)", x.restore(1), 0);
        due.is("restore(0)", x.restore(0), 3);
        x.configure(2, 1, 0);
        due.is("save(0)", x.save(0), 1);
    }

    private static void theTextIsNoPartOfTheState(Due due) {
        RenamingGrid x = new RenamingGrid();
        x.step(0);
        Due.type(x, "1*2");
        x.save(0);
        due.is("undo()", x.undo(), 0);
        due.is("append(59)", x.append(';'), 4);
        due.is("restore(0)", x.restore(0), 2);
        due.is("runText()", x.runText(), 2);
        due.is("restore(0)", x.restore(0), 2);
        due.is("clearText()", x.clearText(), 0);
    }
}
