/**
 * The boundary cases of promises 1 to 6 and of the document's "Grid and names"
 * and "Processes". Each method tests the sentence that stands above it.
 */
public final class BoundaryGridTest {
    private static final int[] NAMES = {0, 0, 3, 6, 10};

    private BoundaryGridTest() {
    }

    public static void main(String[] args) {
        Due due = new Due("BoundaryGridTest");
        atFirst(due);
        sizes(due);
        numbersOfProcesses(due);
        programs(due);
        configureFailsForOneWrongArgument(due);
        configureBeginsAnew(due);
        namesOfEachSize(due);
        namesOfMoves(due);
        edgeOfTheGrid(due);
        registersAtFirst(due);
        processesAtFirst(due);
        onlyRunningProcessesMakeSteps(due);
        phasesOfProgram0(due);
        phasesOfProgram1(due);
        phasesOfProgram2(due);
        namedAndCrashedStay(due);
        whoIsOutIsNowhere(due);
        processesThatStepTakes(due);
        answersOfStep(due);
        processesThatCrashTakes(due);
        answersOfCrash(due);
        due.end();
    }

    /** "Creates a grid of size 3 with 2 processes and program 0, and an empty text." */
    private static void atFirst(Due due) {
        RenamingGrid x = new RenamingGrid();
        due.is("nameCount(): size 3", x.nameCount(), 6);
        due.is("owner(5): size 3", x.owner(5), -9);
        due.is("owner(6): size 3", x.owner(6), -1);
        due.is("processCount()", x.processCount(), 2);
        due.is("status(1)", x.status(1), 0);
        due.is("status(2)", x.status(2), -1);
        due.is("clearText(): no text", x.clearText(), 0);
        due.is("runText(): no text", x.runText(), -10);
        due.is("explore(): 49 with program 1, 101 with program 2", x.explore(), 165);
        due.is("undo(): nothing is saved", x.undo(), -2);
        due.is("restore(0): the slot is empty", x.restore(0), -2);
        due.is("restore(1): the slot is empty", x.restore(1), -2);
    }

    /** "size: 2 to 4"; "The grid has a size k, which is 2, 3 or 4". */
    private static void sizes(Due due) {
        RenamingGrid x = new RenamingGrid();
        due.is("configure(2, 2, 0)", x.configure(2, 2, 0), 3);
        due.is("configure(1, 2, 0)", x.configure(1, 2, 0), -1);
        due.is("nameCount() after that", x.nameCount(), 3);
        due.is("configure(4, 2, 0)", x.configure(4, 2, 0), 10);
        due.is("configure(5, 2, 0)", x.configure(5, 2, 0), -1);
        due.is("nameCount() after that", x.nameCount(), 10);
        due.is("configure(0, 2, 0)", x.configure(0, 2, 0), -1);
        due.is("configure(-3, 2, 0)", x.configure(-3, 2, 0), -1);
        for (int far : Look.FAR) {
            due.is("configure(" + far + ", 2, 0)", x.configure(far, 2, 0), -1);
        }
        due.is("configure(3, 2, 0)", x.configure(3, 2, 0), 6);
    }

    /** "processes: 1 to 3"; "There are 1 to 3 processes". */
    private static void numbersOfProcesses(Due due) {
        RenamingGrid x = new RenamingGrid();
        due.is("configure(3, 1, 0)", x.configure(3, 1, 0), 6);
        due.is("configure(3, 0, 0)", x.configure(3, 0, 0), -1);
        due.is("processCount() after that", x.processCount(), 1);
        due.is("configure(3, 3, 0)", x.configure(3, 3, 0), 6);
        due.is("configure(3, 4, 0)", x.configure(3, 4, 0), -1);
        due.is("processCount() after that", x.processCount(), 3);
        due.is("configure(3, -1, 0)", x.configure(3, -1, 0), -1);
        for (int far : Look.FAR) {
            due.is("configure(3, " + far + ", 0)", x.configure(3, far, 0), -1);
        }
        due.is("configure(3, 2, 0)", x.configure(3, 2, 0), 6);
        due.is("processCount()", x.processCount(), 2);
    }

    /** "program: 0 to 2". */
    private static void programs(Due due) {
        RenamingGrid x = new RenamingGrid();
        due.is("configure(2, 2, 0)", x.configure(2, 2, 0), 3);
        due.is("configure(2, 2, -1)", x.configure(2, 2, -1), -1);
        due.is("explore(): program 0 after that", x.explore(), 165);
        due.is("configure(2, 2, 2)", x.configure(2, 2, 2), 3);
        due.is("configure(2, 2, 3)", x.configure(2, 2, 3), -1);
        due.is("explore(): program 2 after that", x.explore(), 101);
        for (int far : Look.FAR) {
            due.is("configure(2, 2, " + far + ")", x.configure(2, 2, far), -1);
        }
        due.is("configure(2, 2, 1)", x.configure(2, 2, 1), 3);
        due.is("explore(): program 1", x.explore(), 49);
    }

    /** "Returns the number of names; INVALID_ARGUMENT if an argument is out of range." */
    private static void configureFailsForOneWrongArgument(Due due) {
        RenamingGrid x = new RenamingGrid();
        for (int size = 1; size <= 5; size++) {
            for (int processes = 0; processes <= 4; processes++) {
                for (int program = -1; program <= 3; program++) {
                    boolean right = size >= 2 && size <= 4 && processes >= 1 && processes <= 3
                            && program >= 0 && program <= 2;
                    due.is("configure(" + size + ", " + processes + ", " + program + ")",
                            x.configure(size, processes, program), right ? NAMES[size] : -1);
                }
            }
        }
        due.is("nameCount(): the last that succeeded", x.nameCount(), 10);
        due.is("processCount(): the last that succeeded", x.processCount(), 3);
    }

    /** "all registers and processes are as at first, no steps have been made, and all processes have entered (0, 0)". */
    private static void configureBeginsAnew(Due due) {
        for (int size = 2; size <= 4; size++) {
            for (int processes = 1; processes <= 3; processes++) {
                RenamingGrid x = Due.grid(2, 3, 0);
                // 0 is named, 1 crashed on its way, 2 is out to the right; nearly all registers are written.
                Due.steps(x, 0, 0, 0, 0, 1, 1, 1, 1, 1, 2, 2, 2, 2);
                x.crash(1);
                x.configure(size, processes, 0);
                String text = "of size " + size + " with " + processes;
                due.is("nameCount() " + text, x.nameCount(), NAMES[size]);
                due.is("processCount() " + text, x.processCount(), processes);
                for (int p = 0; p < processes; p++) {
                    due.is("status(" + p + ") " + text, x.status(p), 0);
                    due.is("splitterOf(" + p + ") " + text, x.splitterOf(p), 0);
                    due.is("phaseOf(" + p + ") " + text, x.phaseOf(p), 0);
                    due.is("stepsOf(" + p + ") " + text, x.stepsOf(p), 0);
                }
                for (int s = 0; s < NAMES[size]; s++) {
                    due.is("owner(" + s + ") " + text, x.owner(s), -9);
                    due.is("door(" + s + ") " + text, x.door(s), 0);
                    due.is("entered(" + s + ") " + text, x.entered(s), s == 0 ? processes : 0);
                    due.is("left(" + s + ", 0) " + text, x.left(s, 0), 0);
                    due.is("left(" + s + ", 1) " + text, x.left(s, 1), 0);
                }
            }
        }
    }

    /** "the names are the numbers from 0 to k * (k + 1) / 2 - 1"; "Returns k * (k + 1) / 2." */
    private static void namesOfEachSize(Due due) {
        for (int size = 2; size <= 4; size++) {
            RenamingGrid x = Due.grid(size, 1, 0);
            due.is("nameCount() of size " + size, x.nameCount(), NAMES[size]);
            for (Look.Query query : Look.OF_A_SPLITTER.values()) {
                due.holds("there is a splitter 0 of size " + size, query.ask(x, 0) != -1);
                due.holds("there is a last splitter of size " + size, query.ask(x, NAMES[size] - 1) != -1);
                due.is("a splitter behind the last one of size " + size, query.ask(x, NAMES[size]), -1);
                due.is("a splitter before the first one of size " + size, query.ask(x, -1), -1);
            }
        }
    }

    /** "The name of the splitter at (r, c) is (r + c) * (r + c + 1) / 2 + r", "diagonal by diagonal". */
    private static void namesOfMoves(Due due) {
        for (int size = 3; size <= 4; size++) {
            due.is("right of 0 in size " + size, afterMoves(size, "r").splitterOf(0), 1);
            due.is("below 0 in size " + size, afterMoves(size, "d").splitterOf(0), 2);
            due.is("right of 1 in size " + size, afterMoves(size, "rr").splitterOf(0), 3);
            due.is("below 1 in size " + size, afterMoves(size, "rd").splitterOf(0), 4);
            due.is("right of 2 in size " + size, afterMoves(size, "dr").splitterOf(0), 4);
            due.is("below 2 in size " + size, afterMoves(size, "dd").splitterOf(0), 5);
        }
    }

    /** Process 0 has moved: r to the right or d down. At the last splitter only 1 is with it. */
    private static RenamingGrid afterMoves(int size, String moves) {
        RenamingGrid x = Due.grid(size, 3, 0);
        if (moves.charAt(0) == 'r') {
            Due.steps(x, 2, 2, 2, 1, 1, 0, 0);
        } else {
            Due.steps(x, 0, 1, 2, 0, 1, 2, 0, 1, 0, 1);
        }
        if (moves.endsWith("r") && moves.length() == 2) {
            Due.steps(x, 1, 1, 1, 0, 0);
        } else if (moves.length() == 2) {
            Due.steps(x, 0, 0, 0, 1, 0);
        }
        return x;
    }

    /** "If there is no splitter there, the process becomes out instead": r + c is less than k. */
    private static void edgeOfTheGrid(Due due) {
        for (String moves : new String[] {"rr", "rd", "dr", "dd"}) {
            RenamingGrid x = afterMoves(2, moves);
            int from = moves.startsWith("r") ? 1 : 2;
            int direction = moves.endsWith("r") ? 0 : 1;
            due.is("status(0) after " + moves + " in size 2", x.status(0), 2);
            due.is("splitterOf(0) after " + moves + " in size 2", x.splitterOf(0), -9);
            due.is("left(from, direction) after " + moves, x.left(from, direction), 1);
            due.is("left(from, other) after " + moves, x.left(from, 1 - direction), 0);
            x = afterMoves(3, moves);
            due.is("status(0) after " + moves + " in size 3", x.status(0), 0);
            due.is("phaseOf(0) after " + moves + " in size 3", x.phaseOf(0), 0);
            due.is("entered(the third) after " + moves, x.entered(x.splitterOf(0)), 1);
        }
        due.is("status(0) after r in size 2", afterMoves(2, "r").status(0), 0);
        due.is("status(0) after d in size 2", afterMoves(2, "d").status(0), 0);
    }

    /** "the owner, which is NONE or the number of a process (at first NONE), and the door, which is 0 (open, at first) or 1". */
    private static void registersAtFirst(Due due) {
        RenamingGrid x = new RenamingGrid();
        for (int s = 0; s < 6; s++) {
            due.is("owner(" + s + ") at first", x.owner(s), -9);
            due.is("door(" + s + ") at first", x.door(s), 0);
        }
        x.step(0);
        due.is("owner(0) is process 0, not NONE", x.owner(0), 0);
        Due.steps(x, 0, 0);
        due.is("door(0)", x.door(0), 1);
    }

    /** "A process is running (status 0, at first)"; "it begins at (0, 0) in phase 0". */
    private static void processesAtFirst(Due due) {
        RenamingGrid x = new RenamingGrid();
        for (int p = 0; p < 2; p++) {
            due.is("status(" + p + ") at first", x.status(p), 0);
            due.is("splitterOf(" + p + ") at first", x.splitterOf(p), 0);
            due.is("phaseOf(" + p + ") at first", x.phaseOf(p), 0);
            due.is("stepsOf(" + p + ") at first", x.stepsOf(p), 0);
        }
        due.is("entered(0) at first", x.entered(0), 2);
    }

    /** "Only a running process can make steps." */
    private static void onlyRunningProcessesMakeSteps(Due due) {
        RenamingGrid x = Due.grid(2, 3, 0);
        Due.steps(x, 0, 0, 0, 0, 1, 1, 1, 1, 1, 1, 2, 2, 2, 2);
        due.is("status(0)", x.status(0), 1);
        due.is("step(0) of one that is named", x.step(0), -2);
        due.is("status(2)", x.status(2), 2);
        due.is("step(2) of one that is out", x.step(2), -2);
        x.undo();
        x.crash(2);
        due.is("step(2) of one that crashed", x.step(2), -2);
        due.is("stepsOf(2)", x.stepsOf(2), 3);
        x.undo();
        due.is("step(2) of one that runs", x.step(2), 4);
    }

    /** "Phase 0 ..: The next phase is 1"; 1: "otherwise its next phase is 2"; 2: "its next phase is 3"; 3: "becomes named". */
    private static void phasesOfProgram0(Due due) {
        RenamingGrid x = Due.grid(3, 2, 0);
        isAfterStep(due, x, 0, 1, 0);
        isAfterStep(due, x, 0, 2, 0);
        isAfterStep(due, x, 0, 3, 1);
        isAfterStep(due, x, 1, 3, 1);
        due.is("step(1): sets the owner", x.step(1), 0);
        due.is("step(1): the door is closed", x.step(1), 2);
        x.undo();
        x.undo();
        x.undo();
        due.is("step(1): sets the owner before 0 reads it", x.step(1), 0);
        due.is("step(0): reads another owner", x.step(0), 3);
    }

    /** "but with program 1 it is 2". */
    private static void phasesOfProgram1(Due due) {
        RenamingGrid x = Due.grid(3, 2, 1);
        isAfterStep(due, x, 0, 2, 0);
        isAfterStep(due, x, 0, 3, 1);
        due.is("step(1): sets the owner", x.step(1), 0);
        due.is("step(1): doesn't read the closed door", x.step(1), 0);
        due.is("phaseOf(1)", x.phaseOf(1), 3);
        due.is("step(0): reads another owner", x.step(0), 3);
        due.is("step(1): reads its own number", x.step(1), 1);
    }

    /** "Phase 2, program 2: the process reads the owner"; "Phase 3, program 2: the process closes the door and becomes named". */
    private static void phasesOfProgram2(Due due) {
        RenamingGrid x = Due.grid(3, 2, 2);
        isAfterStep(due, x, 0, 1, 0);
        isAfterStep(due, x, 0, 2, 0);
        isAfterStep(due, x, 0, 3, 0);
        due.is("step(1): sets the owner, too late for 0", x.step(1), 0);
        due.is("step(0): does not read the owner again", x.step(0), 1);
        due.is("door(0)", x.door(0), 1);
        due.is("step(1): the door is closed", x.step(1), 2);
        x.configure(3, 2, 2);
        Due.steps(x, 0, 0, 1);
        due.is("step(0): reads another owner in phase 2", x.step(0), 3);
        due.is("door(0) is open still", x.door(0), 0);
    }

    private static void isAfterStep(Due due, RenamingGrid x, int answer, int phase, int door) {
        due.is("step(0)", x.step(0), answer);
        due.is("phaseOf(0)", x.phaseOf(0), phase);
        due.is("door(0)", x.door(0), door);
        due.is("owner(0)", x.owner(0), 0);
        due.is("status(0)", x.status(0), answer);
    }

    /** "A process that becomes named or crashed stays at its splitter, in its phase." */
    private static void namedAndCrashedStay(Due due) {
        for (int program = 0; program <= 2; program++) {
            RenamingGrid x = Due.grid(3, 1, program);
            int steps = program == 1 ? 3 : 4;
            for (int left = steps; left > 0; left--) {
                int splitter = x.splitterOf(0);
                int phase = x.phaseOf(0);
                due.is("crash(0)", x.crash(0), 0);
                due.is("splitterOf(0) when crashed", x.splitterOf(0), splitter);
                due.is("phaseOf(0) when crashed", x.phaseOf(0), phase);
                x.undo();
                due.is("step(0)", x.step(0), left == 1 ? 1 : 0);
            }
            due.is("splitterOf(0) when named", x.splitterOf(0), 0);
            due.is("phaseOf(0) when named", x.phaseOf(0), 3);
        }
        RenamingGrid x = Due.grid(3, 2, 0);
        due.is("crash(1) before a step", x.crash(1), 1);
        due.is("splitterOf(1)", x.splitterOf(1), 0);
        due.is("phaseOf(1)", x.phaseOf(1), 0);
    }

    /** "the process becomes out instead, and it is at no splitter any more". */
    private static void whoIsOutIsNowhere(Due due) {
        for (String moves : new String[] {"rr", "rd", "dr", "dd"}) {
            RenamingGrid x = afterMoves(2, moves);
            due.is("splitterOf(0) after " + moves, x.splitterOf(0), -9);
            due.is("phaseOf(0) after " + moves, x.phaseOf(0), -9);
            due.is("soloSteps(0) after " + moves, x.soloSteps(0), 0);
            due.is("soloName(0) after " + moves, x.soloName(0), -9);
        }
    }

    /** step: "INVALID_ARGUMENT if there is no such process". */
    private static void processesThatStepTakes(Due due) {
        for (int processes = 1; processes <= 3; processes++) {
            RenamingGrid x = Due.grid(3, processes, 0);
            due.is("step(-1) of " + processes, x.step(-1), -1);
            due.is("step(processes) of " + processes, x.step(processes), -1);
            for (int far : Look.FAR) {
                due.is("step(" + far + ") of " + processes, x.step(far), -1);
            }
            due.is("step(0) of " + processes, x.step(0), 0);
            due.is("step(last) of " + processes, x.step(processes - 1), 0);
            due.is("stepsOf(last)", x.stepsOf(processes - 1), processes == 1 ? 2 : 1);
        }
    }

    /** "Returns 0 if the process is still at the same splitter and running, 1 .. named, 2 .. right, 3 .. down, 4 .. out". */
    private static void answersOfStep(Due due) {
        RenamingGrid x = Due.grid(2, 3, 0);
        Due.steps(x, 0, 1, 0, 0);
        due.is("step(0) down", x.step(0), 3);
        due.is("step(1) right", x.step(1), 2);
        Due.steps(x, 1, 1, 1);
        due.is("step(1) named", x.step(1), 1);
        due.is("step(2) stays", x.step(2), 0);
        due.is("step(2) right", x.step(2), 2);
        due.is("step(2) stays", x.step(2), 0);
        due.is("step(2) out to the right", x.step(2), 4);
        Due.steps(x, 0, 0, 0);
        due.is("step(0) named", x.step(0), 1);
    }

    /** crash: "INVALID_ARGUMENT if there is no such process; ILLEGAL_STATE if it is not running." */
    private static void processesThatCrashTakes(Due due) {
        for (int processes = 1; processes <= 3; processes++) {
            RenamingGrid x = Due.grid(3, processes, 0);
            due.is("crash(-1) of " + processes, x.crash(-1), -1);
            due.is("crash(processes) of " + processes, x.crash(processes), -1);
            for (int far : Look.FAR) {
                due.is("crash(" + far + ") of " + processes, x.crash(far), -1);
            }
            due.is("crash(last) of " + processes, x.crash(processes - 1), processes - 1);
            due.is("crash(last) again", x.crash(processes - 1), -2);
            due.is("crash(0) of " + processes, x.crash(0), processes == 1 ? -2 : processes - 2);
        }
        RenamingGrid x = afterMoves(2, "rr");
        due.is("crash(0) of one that is out", x.crash(0), -2);
        x = Due.grid(2, 1, 1);
        Due.steps(x, 0, 0, 0);
        due.is("crash(0) of one that is named", x.crash(0), -2);
    }

    /** "Returns the number of processes that are still running". */
    private static void answersOfCrash(Due due) {
        RenamingGrid x = Due.grid(2, 3, 0);
        due.is("crash(1) of three", x.crash(1), 2);
        due.is("crash(2) of two", x.crash(2), 1);
        due.is("crash(0) of one", x.crash(0), 0);
        x.configure(2, 3, 0);
        Due.steps(x, 0, 0, 0, 0);
        due.is("crash(1), when 0 is named", x.crash(1), 1);
        x.configure(2, 3, 0);
        Due.steps(x, 0, 0, 0, 0, 1, 1, 1, 1, 1, 2, 2, 2, 2);
        due.is("crash(1), when 0 is named and 2 out", x.crash(1), 0);
    }
}
