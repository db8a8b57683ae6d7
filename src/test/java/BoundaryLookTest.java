import java.util.Map;

/**
 * The boundary cases of promises 3, 4 and 10 to 19. Each method tests the
 * sentence that stands above it.
 */
public final class BoundaryLookTest {
    private static final int[] NAMES = {0, 0, 3, 6, 10};

    private BoundaryLookTest() {
    }

    public static void main(String[] args) {
        Due due = new Due("BoundaryLookTest");
        namesAndProcesses(due);
        noSuchProcess(due);
        everyStatus(due);
        splittersOfProcesses(due);
        phasesOfProcesses(due);
        stepsOfProcesses(due);
        soloStepsOfWhoDoesNotRun(due);
        soloStepsOfWhoRuns(due);
        soloNames(due);
        soloNamesOfWhoIsOutOrCrashed(due);
        noSuchSplitter(due);
        noSuchDirection(due);
        owners(due);
        doors(due);
        numbersOfEntries(due);
        numbersOfExits(due);
        exitsOutOfTheGrid(due);
        askingChangesNothing(due);
        due.end();
    }

    /** 0 is named 0, 1 is named 1, and 2 has gone out to the right with its fourth step. */
    private static RenamingGrid crowded() {
        RenamingGrid x = Due.grid(2, 3, 0);
        Due.steps(x, 0, 0, 0, 0, 1, 1, 1, 1, 1, 1, 2, 2, 2, 2);
        return x;
    }

    /** "Returns k * (k + 1) / 2."; "Returns 1 to 3." */
    private static void namesAndProcesses(Due due) {
        for (int size = 2; size <= 4; size++) {
            for (int processes = 1; processes <= 3; processes++) {
                RenamingGrid x = Due.grid(size, processes, 0);
                due.is("nameCount() of size " + size, x.nameCount(), NAMES[size]);
                due.is("processCount() of " + processes, x.processCount(), processes);
                x.undo();
                due.is("nameCount() after undo()", x.nameCount(), 6);
                due.is("processCount() after undo()", x.processCount(), 2);
            }
        }
        RenamingGrid x = crowded();
        due.is("processCount() with none running", x.processCount(), 3);
        due.is("nameCount() with names taken", x.nameCount(), 3);
    }

    /** "INVALID_ARGUMENT if there is no such process", of each method that tells about a process. */
    private static void noSuchProcess(Due due) {
        for (int processes = 1; processes <= 3; processes++) {
            RenamingGrid x = Due.grid(4, processes, 0);
            for (Map.Entry<String, Look.Query> query : Look.OF_A_PROCESS.entrySet()) {
                String of = " of " + processes;
                int alone = query.getKey().equals("soloSteps") ? 4 : 0;
                due.is(query.getKey() + "(0)" + of, query.getValue().ask(x, 0), alone);
                due.is(query.getKey() + "(last)" + of, query.getValue().ask(x, processes - 1), alone);
                due.is(query.getKey() + "(-1)" + of, query.getValue().ask(x, -1), -1);
                due.is(query.getKey() + "(processes)" + of, query.getValue().ask(x, processes), -1);
                due.is(query.getKey() + "(4)" + of, query.getValue().ask(x, 4), -1);
                for (int far : Look.FAR) {
                    due.is(query.getKey() + "(" + far + ")" + of, query.getValue().ask(x, far), -1);
                }
            }
        }
    }

    /** "Returns 0 running, 1 named, 2 out, 3 crashed". */
    private static void everyStatus(Due due) {
        RenamingGrid x = crowded();
        due.is("status(0): named", x.status(0), 1);
        due.is("status(2): out", x.status(2), 2);
        x.undo();
        due.is("status(2): running", x.status(2), 0);
        x.crash(2);
        due.is("status(2): crashed", x.status(2), 3);
    }

    /** "Returns the name of the splitter; .. NONE if the process is out." */
    private static void splittersOfProcesses(Due due) {
        RenamingGrid x = crowded();
        due.is("splitterOf(0): named", x.splitterOf(0), 0);
        due.is("splitterOf(1): named", x.splitterOf(1), 1);
        due.is("splitterOf(2): out", x.splitterOf(2), -9);
        x.undo();
        due.is("splitterOf(2): running", x.splitterOf(2), 1);
        x.crash(2);
        due.is("splitterOf(2): crashed", x.splitterOf(2), 1);
    }

    /** "Returns 0 to 3; .. NONE if the process is out." */
    private static void phasesOfProcesses(Due due) {
        RenamingGrid x = crowded();
        due.is("phaseOf(0): named", x.phaseOf(0), 3);
        due.is("phaseOf(2): out", x.phaseOf(2), -9);
        x.undo();
        due.is("phaseOf(2): running", x.phaseOf(2), 1);
        x.crash(2);
        due.is("phaseOf(2): crashed", x.phaseOf(2), 1);
        x.configure(2, 3, 0);
        for (int phase = 0; phase <= 3; phase++) {
            due.is("phaseOf(2) after " + phase + " steps", x.phaseOf(2), phase);
            x.step(2);
        }
        due.is("phaseOf(2) after 4 steps", x.phaseOf(2), 3);
    }

    /** "Returns the number of steps": from 0 on; the step that ends a way counts, a call that fails does not. */
    private static void stepsOfProcesses(Due due) {
        RenamingGrid x = new RenamingGrid();
        for (int steps = 0; steps < 4; steps++) {
            due.is("stepsOf(0)", x.stepsOf(0), steps);
            x.step(0);
        }
        due.is("stepsOf(0) when named", x.stepsOf(0), 4);
        x.step(0);
        due.is("stepsOf(0) after a call that failed", x.stepsOf(0), 4);
        due.is("stepsOf(1)", x.stepsOf(1), 0);
        x.crash(1);
        due.is("stepsOf(1): a crash is no step", x.stepsOf(1), 0);
        due.is("stepsOf(2) when out", crowded().stepsOf(2), 4);
        // Going down twice takes the most steps: four at each of three splitters.
        x = Due.grid(3, 3, 0);
        Due.steps(x, 0, 1, 2, 0, 1, 2, 0, 1, 0, 1, 0, 1, 0, 0, 0, 0, 0, 0, 0);
        due.is("splitterOf(0)", x.splitterOf(0), 5);
        due.is("stepsOf(0)", x.stepsOf(0), 12);
        due.is("status(0)", x.status(0), 1);
    }

    /** soloSteps: "0 if it is not running". */
    private static void soloStepsOfWhoDoesNotRun(Due due) {
        RenamingGrid x = crowded();
        due.is("soloSteps(0): named", x.soloSteps(0), 0);
        due.is("soloSteps(2): out", x.soloSteps(2), 0);
        x.undo();
        due.is("soloSteps(2): running", x.soloSteps(2), 1);
        x.crash(2);
        due.is("soloSteps(2): crashed", x.soloSteps(2), 0);
    }

    /** soloSteps: "until it is not running any more, if all others made none". */
    private static void soloStepsOfWhoRuns(Due due) {
        int[] lengths = {4, 3, 4};
        for (int program = 0; program <= 2; program++) {
            RenamingGrid x = Due.grid(3, 2, program);
            for (int left = lengths[program]; left > 0; left--) {
                due.is("soloSteps(0) with program " + program, x.soloSteps(0), left);
                due.is("soloSteps(0) answers the same again", x.soloSteps(0), left);
                x.step(0);
            }
            due.is("soloSteps(0) at the end of program " + program, x.soloSteps(0), 0);
        }
        RenamingGrid x = Due.grid(3, 3, 0);
        Due.steps(x, 0, 0, 0, 1, 1, 1, 1, 1);
        due.is("soloSteps(2): the most that there are", x.soloSteps(2), 8);
    }

    /** soloName: "which name a process would have in the end"; one that is named has it. */
    private static void soloNames(Due due) {
        RenamingGrid x = crowded();
        due.is("soloName(0): named 0", x.soloName(0), 0);
        due.is("soloName(1): named 1", x.soloName(1), 1);
        x = Due.grid(3, 3, 0);
        Due.steps(x, 0, 0, 0, 1, 1, 1, 1, 1);
        due.is("soloName(0): it has lost its first splitter", x.soloName(0), 2);
        due.is("soloName(1)", x.soloName(1), 1);
        due.is("soloName(2)", x.soloName(2), 3);
        x = Due.grid(3, 3, 0);
        Due.steps(x, 0, 1, 2, 0, 1, 2, 0, 1, 0, 1, 0, 1, 0, 0, 0);
        due.is("soloName(0): the greatest that there is", x.soloName(0), 5);
        due.is("soloName(1): its next door is closed", x.soloName(1), 4);
        due.is("soloName(2)", x.soloName(2), 0);
    }

    /** soloName: "NONE if it is or would become out, or is crashed". */
    private static void soloNamesOfWhoIsOutOrCrashed(Due due) {
        RenamingGrid x = crowded();
        due.is("soloName(2): out", x.soloName(2), -9);
        for (int steps = 3; steps >= 0; steps--) {
            x.undo();
            due.is("stepsOf(2)", x.stepsOf(2), steps);
            due.is("soloName(2): would become out", x.soloName(2), -9);
            due.is("soloSteps(2): would become out", x.soloSteps(2), 4 - steps);
        }
        x.crash(2);
        due.is("soloName(2): crashed", x.soloName(2), -9);
        x = Due.grid(2, 1, 0);
        Due.steps(x, 0, 0, 0);
        due.is("soloName(0): one step before its name", x.soloName(0), 0);
        x.crash(0);
        due.is("soloName(0): crashed one step before its name", x.soloName(0), -9);
    }

    /** "INVALID_ARGUMENT if there is no such splitter", of each method that tells about a splitter. */
    private static void noSuchSplitter(Due due) {
        for (int size = 2; size <= 4; size++) {
            RenamingGrid x = Due.grid(size, 1, 0);
            for (Map.Entry<String, Look.Query> query : Look.OF_A_SPLITTER.entrySet()) {
                String of = " of size " + size;
                int last = query.getKey().equals("owner") ? -9 : 0;
                due.is(query.getKey() + "(last)" + of, query.getValue().ask(x, NAMES[size] - 1), last);
                due.is(query.getKey() + "(names)" + of, query.getValue().ask(x, NAMES[size]), -1);
                due.is(query.getKey() + "(-1)" + of, query.getValue().ask(x, -1), -1);
                due.is(query.getKey() + "(-9)" + of, query.getValue().ask(x, -9), -1);
                due.is(query.getKey() + "(10)" + of, query.getValue().ask(x, 10), -1);
                for (int far : Look.FAR) {
                    due.is(query.getKey() + "(" + far + ")" + of, query.getValue().ask(x, far), -1);
                }
            }
            due.is("entered(0) of size " + size, x.entered(0), 1);
        }
    }

    /** left: "or if direction is neither 0 nor 1". */
    private static void noSuchDirection(Due due) {
        RenamingGrid x = crowded();
        due.is("left(0, 0)", x.left(0, 0), 2);
        due.is("left(0, 1)", x.left(0, 1), 0);
        due.is("left(0, -1)", x.left(0, -1), -1);
        due.is("left(0, 2)", x.left(0, 2), -1);
        for (int far : Look.FAR) {
            due.is("left(0, " + far + ")", x.left(0, far), -1);
        }
        due.is("left(-1, 2)", x.left(-1, 2), -1);
        due.is("left(3, 0)", x.left(3, 0), -1);
        due.is("left(3, 1)", x.left(3, 1), -1);
        due.is("left(2, 1)", x.left(2, 1), 0);
    }

    /** "Returns the number of a process; .. NONE if the owner is NONE." */
    private static void owners(Due due) {
        RenamingGrid x = Due.grid(2, 3, 0);
        due.is("owner(0): none", x.owner(0), -9);
        x.step(0);
        due.is("owner(0): process 0", x.owner(0), 0);
        x.step(2);
        due.is("owner(0): process 2", x.owner(0), 2);
        x.step(1);
        due.is("owner(0): process 1", x.owner(0), 1);
        due.is("owner(1): none", x.owner(1), -9);
        due.is("owner(2): none", x.owner(2), -9);
        x = crowded();
        due.is("owner(1): process 2, which is out", x.owner(1), 2);
    }

    /** "Returns 0 open, 1 closed". */
    private static void doors(Due due) {
        RenamingGrid x = Due.grid(2, 3, 0);
        Due.steps(x, 0, 0);
        due.is("door(0): open", x.door(0), 0);
        x.step(0);
        due.is("door(0): closed", x.door(0), 1);
        Due.steps(x, 0, 1, 1, 1, 1);
        due.is("door(0): closed still", x.door(0), 1);
        due.is("door(1): open", x.door(1), 0);
        x.step(1);
        due.is("door(1): closed", x.door(1), 1);
        due.is("door(2): open", x.door(2), 0);
    }

    /** "A process enters a splitter when it comes to be there, also (0, 0) at the beginning". */
    private static void numbersOfEntries(Due due) {
        for (int processes = 1; processes <= 3; processes++) {
            RenamingGrid x = Due.grid(2, processes, 0);
            due.is("entered(0) of " + processes, x.entered(0), processes);
            due.is("entered(1) of " + processes, x.entered(1), 0);
            x.step(0);
            due.is("entered(0): to stay is not to enter", x.entered(0), processes);
        }
        RenamingGrid x = crowded();
        due.is("entered(0)", x.entered(0), 3);
        due.is("entered(1)", x.entered(1), 2);
        due.is("entered(2)", x.entered(2), 0);
        x.configure(2, 2, 0);
        due.is("entered(0) after configure()", x.entered(0), 2);
        x.crash(0);
        due.is("entered(0) after crash()", x.entered(0), 2);
    }

    /** left: "Returns how many processes have left a splitter in a direction": named and crashed ones have not. */
    private static void numbersOfExits(Due due) {
        RenamingGrid x = Due.grid(3, 3, 0);
        Due.steps(x, 2, 2, 2, 0);
        due.is("left(0, 0): none", x.left(0, 0), 0);
        x.step(0);
        due.is("left(0, 0): one", x.left(0, 0), 1);
        Due.steps(x, 1, 1);
        due.is("left(0, 0): two", x.left(0, 0), 2);
        due.is("left(0, 1): none", x.left(0, 1), 0);
        x.step(2);
        due.is("left(0, 1): one", x.left(0, 1), 1);
        due.is("left(0, 0): two still", x.left(0, 0), 2);
        x.configure(3, 3, 0);
        Due.steps(x, 0, 1, 2, 0, 1, 2, 0, 1, 2, 0, 1);
        due.is("left(0, 1): two", x.left(0, 1), 2);
        Due.steps(x, 2);
        due.is("status(2): named", x.status(2), 1);
        x.crash(0);
        due.is("left(0, 1): two still", x.left(0, 1), 2);
        due.is("left(0, 0): none", x.left(0, 0), 0);
        due.is("left(2, 0): none", x.left(2, 0), 0);
        due.is("left(2, 1): none", x.left(2, 1), 0);
    }

    /** "a process that becomes out has left its splitter to the right or down, too". */
    private static void exitsOutOfTheGrid(Due due) {
        RenamingGrid x = crowded();
        due.is("left(1, 0): out to the right", x.left(1, 0), 1);
        due.is("left(1, 1)", x.left(1, 1), 0);
        x = Due.grid(2, 3, 0);
        // 0 and 1 go down together, and 1 takes the splitter over from 0.
        Due.steps(x, 0, 1, 2, 0, 1, 2, 0, 1, 0, 1, 0, 0, 0, 1);
        due.is("step(0)", x.step(0), 4);
        due.is("left(2, 1): out downwards", x.left(2, 1), 1);
        due.is("left(2, 0)", x.left(2, 0), 0);
        due.is("entered(2)", x.entered(2), 2);
    }

    /** Each of these methods only tells: the state, what was saved and what was explored stay. */
    private static void askingChangesNothing(Due due) {
        RenamingGrid x = crowded();
        x.undo();
        x.explore();
        Due.type(x, "2");
        String state = Look.atState(x);
        String told = Look.atExploration(x);
        due.holds("the state stays", state.equals(Look.atState(x)));
        due.holds("what was explored stays", told.equals(Look.atExploration(x)));
        due.is("append(';')", x.append(';'), 2);
        due.is("undo(): what was saved stays", x.undo(), 6);
        due.is("runText()", x.runText(), 1);
    }
}
