import java.util.function.Consumer;

/**
 * The boundary cases of promises 28 to 30 and of the document's "Undo and
 * snapshots". Each method tests the sentence that stands above it.
 */
public final class BoundaryUndoTest {
    /** Twelve steps that two processes can make in a grid of size 3; both are running before the eleventh. */
    private static final int[] STEPS = {0, 1, 0, 1, 0, 1, 0, 0, 0, 0, 0, 1};

    private BoundaryUndoTest() {
    }

    public static void main(String[] args) {
        Due due = new Due("BoundaryUndoTest");
        noneWasSaved(due);
        statesThatAreStillSaved(due);
        eightStates(due);
        aNinthState(due);
        everyMethodSavesOne(due);
        everyMethodSavesTheNinth(due);
        whatFailsSavesNone(due);
        whatOnlyTellsSavesNone(due);
        mostRecentFirst(due);
        allThatTheStateConsistsOf(due);
        slotsThatSaveTakes(due);
        slotsThatRestoreTakes(due);
        emptySlots(due);
        runningProcessesAtSave(due);
        runningProcessesAtRestore(due);
        aSlotKeepsItsCopy(due);
        aSlotIsWrittenAgain(due);
        slotsAreApart(due);
        restoreDiscardsWhatWasSaved(due);
        restoreThatFailsDiscardsNothing(due);
        saveDiscardsNothing(due);
        slotsOutliveConfigureAndUndo(due);
        theTextStays(due);
        due.end();
    }

    /** "ILLEGAL_STATE if none was saved." */
    private static void noneWasSaved(Due due) {
        RenamingGrid x = new RenamingGrid();
        due.is("undo() of a new object", x.undo(), -2);
        x.step(0);
        due.is("undo()", x.undo(), 0);
        due.is("undo() when all is taken back", x.undo(), -2);
        due.is("undo() again", x.undo(), -2);
        due.is("stepsOf(0)", x.stepsOf(0), 0);
        x.step(1);
        due.is("undo() after a new step", x.undo(), 0);
    }

    /** "Returns the number of states that are still saved": from 7 to 0. */
    private static void statesThatAreStillSaved(Due due) {
        for (int changes = 1; changes <= 8; changes++) {
            RenamingGrid x = stepped(changes);
            for (int left = changes - 1; left >= 0; left--) {
                due.is("undo() after " + changes + " changes", x.undo(), left);
            }
            due.is("undo() after all", x.undo(), -2);
        }
    }

    private static RenamingGrid stepped(int changes) {
        RenamingGrid x = new RenamingGrid();
        for (int i = 0; i < changes; i++) {
            x.step(STEPS[i]);
        }
        return x;
    }

    /** "At most 8 states are saved": eight are, and the eighth undo() leads to the beginning. */
    private static void eightStates(Due due) {
        RenamingGrid x = stepped(8);
        for (int left = 7; left >= 0; left--) {
            due.is("undo() after 8 steps", x.undo(), left);
            due.is("steps that are left", x.stepsOf(0) + x.stepsOf(1), left);
        }
        due.is("undo() of a ninth", x.undo(), -2);
        due.is("owner(0): as at first", x.owner(0), -9);
    }

    /** "when a ninth is saved, the oldest one is discarded". */
    private static void aNinthState(Due due) {
        for (int changes = 9; changes <= 12; changes++) {
            RenamingGrid x = stepped(changes);
            due.is("steps", x.stepsOf(0) + x.stepsOf(1), changes);
            for (int left = 7; left >= 0; left--) {
                due.is("undo() after " + changes + " steps", x.undo(), left);
                due.is("steps that are left", x.stepsOf(0) + x.stepsOf(1), changes - 8 + left);
            }
            due.is("undo() of a ninth", x.undo(), -2);
            due.is("steps that are left", x.stepsOf(0) + x.stepsOf(1), changes - 8);
        }
        RenamingGrid x = new RenamingGrid();
        for (int i = 1; i <= 40; i++) {
            x.configure(2 + i % 3, 1 + i % 2, 0);
            due.is("undo() after configure() " + i, x.undo(), Math.min(i - 1, 7));
            x.configure(2 + i % 3, 1 + i % 2, 0);
        }
        for (int i = 39; i >= 32; i--) {
            due.is("undo() at the end", x.undo(), i - 32);
            due.is("processCount() after it", x.processCount(), 1 + i % 2);
            due.is("nameCount() after it", x.nameCount(), i % 3 == 0 ? 3 : i % 3 == 1 ? 6 : 10);
        }
        due.is("undo() after all", x.undo(), -2);
    }

    /** "Every successful call of configure(), step(), crash() and runText() saves the state that preceded it". */
    private static void everyMethodSavesOne(Due due) {
        savesOne(due, "configure(4, 3, 2)", x -> x.configure(4, 3, 2));
        savesOne(due, "configure() to what it was", x -> x.configure(3, 2, 0));
        savesOne(due, "step(0)", x -> x.step(0));
        savesOne(due, "crash(1)", x -> x.crash(1));
        savesOne(due, "runText()", x -> {
            Due.type(x, "1*3;0*9;1*9;");
            x.runText();
        });
        RenamingGrid x = new RenamingGrid();
        x.crash(0);
        Due.type(x, "0*30;");
        due.is("runText() that makes no step", x.runText(), 0);
        due.is("undo() of runText() that makes no step", x.undo(), 1);
    }

    private static void savesOne(Due due, String call, Consumer<RenamingGrid> act) {
        RenamingGrid x = new RenamingGrid();
        x.step(0);
        String before = Look.atState(x);
        act.accept(x);
        due.is("undo() of " + call, x.undo(), 1);
        due.holds("the state before " + call + " is back", before.equals(Look.atState(x)));
        due.is("undo() of what was before", x.undo(), 0);
        due.is("undo() after all", x.undo(), -2);
    }

    private static void everyMethodSavesTheNinth(Due due) {
        savesTheNinth(due, "configure(2, 3, 1)", x -> x.configure(2, 3, 1));
        savesTheNinth(due, "step(0)", x -> x.step(0));
        savesTheNinth(due, "crash(0)", x -> x.crash(0));
        savesTheNinth(due, "runText()", x -> {
            Due.type(x, "0;");
            x.runText();
        });
    }

    private static void savesTheNinth(Due due, String call, Consumer<RenamingGrid> act) {
        RenamingGrid x = stepped(8);
        String before = Look.atState(x);
        act.accept(x);
        due.is("undo() of " + call + " as the ninth", x.undo(), 7);
        due.holds("the state before " + call + " is back", before.equals(Look.atState(x)));
        for (int left = 6; left >= 0; left--) {
            due.is("undo() of the others", x.undo(), left);
        }
        due.is("undo() of the oldest, which was discarded", x.undo(), -2);
        due.is("steps that are left", x.stepsOf(0) + x.stepsOf(1), 1);
    }

    /** "Every successful call": one that fails saves none, and discards none of eight. */
    private static void whatFailsSavesNone(Due due) {
        for (int changes = 0; changes <= 9; changes++) {
            RenamingGrid x = stepped(changes);
            x.configure(1, 2, 0);
            x.configure(3, 4, 0);
            x.configure(3, 2, 3);
            x.step(2);
            x.step(-1);
            x.crash(2);
            x.crash(-1);
            x.runText();
            Due.type(x, "0;1");
            x.runText();
            due.holds("as many states are saved after calls that failed and " + changes + " changes",
                    Look.atSaved(x).equals(Look.atSaved(stepped(changes))));
        }
        RenamingGrid x = new RenamingGrid();
        x.crash(0);
        x.step(0);
        x.crash(0);
        due.is("undo(): step() and crash() of one that crashed", x.undo(), 0);
    }

    private static void whatOnlyTellsSavesNone(Due due) {
        for (int changes = 0; changes <= 9; changes++) {
            RenamingGrid x = stepped(changes);
            x.explore();
            x.finalCount();
            x.finalsWith(0, 0);
            x.status(0);
            x.soloSteps(0);
            x.soloName(0);
            x.append('0');
            x.clearText();
            x.save(0);
            x.save(1);
            due.holds("as many states are saved after calls that only tell and " + changes + " changes",
                    Look.atSaved(x).equals(Look.atSaved(stepped(changes))));
        }
    }

    /** "undo() restores the most recently saved state and discards it." */
    private static void mostRecentFirst(Due due) {
        RenamingGrid x = new RenamingGrid();
        x.step(0);
        x.step(1);
        x.crash(0);
        x.configure(2, 1, 1);
        due.is("undo() of configure()", x.undo(), 3);
        due.is("status(0)", x.status(0), 3);
        due.is("undo() of crash()", x.undo(), 2);
        due.is("status(0)", x.status(0), 0);
        due.is("crash(1), another way from there", x.crash(1), 1);
        due.is("undo() of that", x.undo(), 2);
        due.is("undo() of step(1)", x.undo(), 1);
        due.is("stepsOf(1)", x.stepsOf(1), 0);
        due.is("stepsOf(0)", x.stepsOf(0), 1);
        due.is("undo() of step(0)", x.undo(), 0);
        due.is("stepsOf(0)", x.stepsOf(0), 0);
    }

    /** "The state consists of the size, the program, the configuration, and for each process .., for each splitter ..". */
    private static void allThatTheStateConsistsOf(Due due) {
        for (int size = 2; size <= 4; size++) {
            for (int program = 0; program <= 2; program++) {
                String what = " with size " + size + " and program " + program;
                String state = Look.atState(busy(size, program));
                String future = Look.atFuture(busy(size, program));
                for (int other = 2; other <= 4; other++) {
                    RenamingGrid x = busy(size, program);
                    x.configure(other, 1, (program + other) % 3);
                    x.undo();
                    due.holds("undo() brings all back" + what, state.equals(Look.atState(x)));
                    due.holds("undo() brings the program back" + what, future.equals(Look.atFuture(x)));
                    x = busy(size, program);
                    x.save(1);
                    x.configure(other, 1, (program + other) % 3);
                    x.restore(1);
                    due.holds("restore() brings all back" + what, state.equals(Look.atState(x)));
                    due.holds("restore() brings the program back" + what, future.equals(Look.atFuture(x)));
                }
            }
        }
    }

    private static RenamingGrid busy(int size, int program) {
        RenamingGrid x = Due.grid(size, 3, program);
        Due.steps(x, 0, 1, 2, 0, 1, 2, 0, 1, 0, 1, 0, 2, 2);
        x.crash(1);
        return x;
    }

    /** save: "slot: 0 or 1"; "INVALID_ARGUMENT if slot is neither 0 nor 1". */
    private static void slotsThatSaveTakes(Due due) {
        RenamingGrid x = new RenamingGrid();
        due.is("save(-1)", x.save(-1), -1);
        due.is("save(2)", x.save(2), -1);
        for (int far : Look.FAR) {
            due.is("save(" + far + ")", x.save(far), -1);
        }
        due.is("restore(0): none of them has filled it", x.restore(0), -2);
        due.is("restore(1): none of them has filled it", x.restore(1), -2);
        due.is("save(0)", x.save(0), 2);
        due.is("save(1)", x.save(1), 2);
        due.is("restore(0)", x.restore(0), 2);
        due.is("restore(1)", x.restore(1), 2);
    }

    /** restore: "slot: 0 or 1"; "INVALID_ARGUMENT if slot is neither 0 nor 1", which comes before ILLEGAL_STATE. */
    private static void slotsThatRestoreTakes(Due due) {
        RenamingGrid x = new RenamingGrid();
        for (int round = 0; round < 2; round++) {
            due.is("restore(-1)", x.restore(-1), -1);
            due.is("restore(2)", x.restore(2), -1);
            for (int far : Look.FAR) {
                due.is("restore(" + far + ")", x.restore(far), -1);
            }
            x.save(0);
            x.save(1);
        }
        due.is("restore(0)", x.restore(0), 2);
        due.is("restore(1)", x.restore(1), 2);
    }

    /** "ILLEGAL_STATE if the slot is empty": each for itself, and until it is saved to. */
    private static void emptySlots(Due due) {
        for (int slot = 0; slot <= 1; slot++) {
            RenamingGrid x = new RenamingGrid();
            due.is("restore(slot) of a new object", x.restore(slot), -2);
            due.is("save(other)", x.save(1 - slot), 2);
            due.is("restore(slot), when the other one is full", x.restore(slot), -2);
            due.is("restore(other)", x.restore(1 - slot), 2);
            due.is("restore(slot) still", x.restore(slot), -2);
            due.is("save(slot)", x.save(slot), 2);
            due.is("restore(slot)", x.restore(slot), 2);
            due.is("restore(slot) again: it is kept", x.restore(slot), 2);
        }
    }

    /** save: "Returns the number of running processes": 0 to 3. */
    private static void runningProcessesAtSave(Due due) {
        for (int processes = 1; processes <= 3; processes++) {
            RenamingGrid x = Due.grid(2, processes, 0);
            for (int running = processes; running > 0; running--) {
                due.is("save(0) with running ones", x.save(0), running);
                x.crash(running - 1);
            }
            due.is("save(1) with none", x.save(1), 0);
        }
        RenamingGrid x = Due.grid(2, 3, 0);
        Due.steps(x, 0, 0, 0, 0);
        due.is("save(0): one is named", x.save(0), 2);
        Due.steps(x, 1, 1, 1, 1, 1, 2, 2, 2, 2);
        due.is("save(0): one is named, one out", x.save(0), 1);
    }

    /** restore: "Returns the number of running processes afterwards". */
    private static void runningProcessesAtRestore(Due due) {
        for (int processes = 1; processes <= 3; processes++) {
            for (int crashed = 0; crashed <= processes; crashed++) {
                RenamingGrid x = Due.grid(2, processes, 0);
                for (int p = 0; p < crashed; p++) {
                    x.crash(p);
                }
                x.save(1);
                x.configure(3, 2, 0);
                due.is("restore(1)", x.restore(1), processes - crashed);
                due.is("processCount()", x.processCount(), processes);
            }
        }
    }

    /** "Replaces the state by a copy of the one in a snapshot slot, which is kept." */
    private static void aSlotKeepsItsCopy(Due due) {
        RenamingGrid x = busy(3, 0);
        String saved = Look.atState(x);
        int running = x.save(0);
        x.step(0);
        due.is("restore(0)", x.restore(0), running);
        due.holds("the state is back", saved.equals(Look.atState(x)));
        x.step(2);
        x.crash(0);
        due.is("restore(0) again", x.restore(0), running);
        due.holds("the state is back again", saved.equals(Look.atState(x)));
        x.configure(2, 1, 1);
        due.is("restore(0) a third time", x.restore(0), running);
        due.holds("the state is back a third time", saved.equals(Look.atState(x)));
    }

    /** "Copies the state into a snapshot slot": what was in it is gone. */
    private static void aSlotIsWrittenAgain(Due due) {
        RenamingGrid x = new RenamingGrid();
        x.save(0);
        x.step(0);
        x.save(0);
        x.step(0);
        due.is("restore(0)", x.restore(0), 2);
        due.is("stepsOf(0): the later one", x.stepsOf(0), 1);
    }

    /** "There are two snapshot slots, 0 and 1." */
    private static void slotsAreApart(Due due) {
        RenamingGrid x = new RenamingGrid();
        x.step(0);
        x.save(0);
        x.step(0);
        x.save(1);
        x.step(0);
        x.restore(0);
        due.is("stepsOf(0) in slot 0", x.stepsOf(0), 1);
        x.restore(1);
        due.is("stepsOf(0) in slot 1", x.stepsOf(0), 2);
        x.restore(0);
        due.is("stepsOf(0) in slot 0 still", x.stepsOf(0), 1);
    }

    /** "All states saved for undo() are discarded." */
    private static void restoreDiscardsWhatWasSaved(Due due) {
        for (int changes = 0; changes <= 9; changes++) {
            RenamingGrid x = stepped(changes);
            x.save(1);
            due.is("restore(1) after " + changes + " changes", x.restore(1), 2);
            due.is("undo() after restore()", x.undo(), -2);
            due.is("steps", x.stepsOf(0) + x.stepsOf(1), changes);
            for (int saved = 1; saved <= 9; saved++) {
                x.configure(3, 2, 0);
            }
            for (int left = 7; left >= 0; left--) {
                due.is("undo() of what came after restore()", x.undo(), left);
            }
            due.is("undo() after all", x.undo(), -2);
        }
    }

    private static void restoreThatFailsDiscardsNothing(Due due) {
        RenamingGrid x = stepped(8);
        due.is("restore(0) of an empty slot", x.restore(0), -2);
        due.is("restore(2)", x.restore(2), -1);
        due.is("undo()", x.undo(), 7);
    }

    private static void saveDiscardsNothing(Due due) {
        RenamingGrid x = stepped(8);
        due.is("save(0)", x.save(0), 2);
        due.is("save(1)", x.save(1), 2);
        due.is("save(2)", x.save(2), -1);
        due.is("undo()", x.undo(), 7);
    }

    /** Nothing but save() writes a slot. */
    private static void slotsOutliveConfigureAndUndo(Due due) {
        RenamingGrid x = busy(4, 2);
        String saved = Look.atState(x);
        int running = x.save(0);
        x.undo();
        x.configure(2, 1, 0);
        x.undo();
        x.undo();
        due.is("restore(1): still empty", x.restore(1), -2);
        due.is("restore(0)", x.restore(0), running);
        due.holds("the state is back", saved.equals(Look.atState(x)));
    }

    /** The text is no part of the state. */
    private static void theTextStays(Due due) {
        RenamingGrid x = new RenamingGrid();
        x.save(0);
        x.step(0);
        Due.type(x, "1;");
        due.is("undo()", x.undo(), 0);
        due.is("append('0') after undo()", x.append('0'), 3);
        due.is("restore(0)", x.restore(0), 2);
        due.is("append(';') after restore()", x.append(';'), 4);
        due.is("configure(2, 2, 1)", x.configure(2, 2, 1), 3);
        due.is("runText() after all that", x.runText(), 2);
        due.is("undo() of runText()", x.undo(), 1);
        due.is("clearText(): undo() brings no text back", x.clearText(), 0);
    }
}
