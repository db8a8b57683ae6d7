/** Promises 20 to 27: explore and the methods that tell about the exploration. */
public final class ExplorationTest {
    public static void main(String[] args) {
        Due due = new Due("ExplorationTest");
        numbersOfTheDocument(due);
        oneProcess(due);
        nothingToldBefore(due);
        whatEndsTheTelling(due);
        whatDoesNotEndTheTelling(due);
        wrongArguments(due);
        tooManyConfigurations(due);
        waysToViolations(due);
        violationAtOnce(due);
        outcomesOfEnds(due);
        greatestNames(due);
        likeTheModel(due);
        due.end();
    }

    private static void numbersOfTheDocument(Due due) {
        RenamingGrid x = new RenamingGrid();
        due.is("explore()", x.explore(), 165);
        due.is("explore() again", x.explore(), 165);
        due.is("finalCount()", x.finalCount(), 8);
        due.is("violationCount()", x.violationCount(), 0);
        due.is("violationStep(0)", x.violationStep(0), -9);
        due.is("greatestDepth()", x.greatestDepth(), 14);
        due.is("greatestName()", x.greatestName(), 2);
        due.is("outcomeCount()", x.outcomeCount(), 6);
        due.is("finalsWith(0, 0)", x.finalsWith(0, 0), 3);
        due.is("finalsWith(0, 1)", x.finalsWith(0, 1), 3);
        due.is("finalsWith(0, 2)", x.finalsWith(0, 2), 2);
        due.is("finalsWith(0, 3)", x.finalsWith(0, 3), 0);
        due.is("finalsWith(1, 5)", x.finalsWith(1, 5), 0);
        due.is("configure(3, 3, 1)", x.configure(3, 3, 1), 6);
        due.is("explore()", x.explore(), 874);
        due.is("violationCount()", x.violationCount(), 69);
        due.is("configure(2, 2, 2)", x.configure(2, 2, 2), 3);
        due.is("explore()", x.explore(), 101);
        due.is("violationCount()", x.violationCount(), 2);
        due.is("finalCount()", x.finalCount(), 8);
        due.is("outcomeCount()", x.outcomeCount(), 5);
    }

    private static void oneProcess(Due due) {
        int[] steps = {4, 3, 4};
        for (int size = 2; size <= 4; size++) {
            for (int program = 0; program <= 2; program++) {
                RenamingGrid x = Due.grid(size, 1, program);
                for (int left = steps[program]; left >= 0; left--) {
                    due.is("explore()", x.explore(), left + 1);
                    due.is("greatestDepth()", x.greatestDepth(), left);
                    due.is("finalCount()", x.finalCount(), 1);
                    due.is("outcomeCount()", x.outcomeCount(), 1);
                    due.is("finalsWith(0, 0)", x.finalsWith(0, 0), 1);
                    due.is("greatestName()", x.greatestName(), 0);
                    due.is("violationCount()", x.violationCount(), 0);
                    due.is("the state is the same", x.stepsOf(0), steps[program] - left);
                    x.step(0);
                }
            }
        }
    }

    private static void nothingIsTold(Due due, String when, RenamingGrid x) {
        due.is("finalCount() " + when, x.finalCount(), -2);
        due.is("violationCount() " + when, x.violationCount(), -2);
        due.is("violationStep(0) " + when, x.violationStep(0), -2);
        due.is("violationStep(99) " + when, x.violationStep(99), -2);
        due.is("violationStep(-1) " + when, x.violationStep(-1), -1);
        due.is("greatestDepth() " + when, x.greatestDepth(), -2);
        due.is("greatestName() " + when, x.greatestName(), -2);
        due.is("outcomeCount() " + when, x.outcomeCount(), -2);
        due.is("finalsWith(0, 0) " + when, x.finalsWith(0, 0), -2);
        due.is("finalsWith(0, -1) " + when, x.finalsWith(0, -1), -1);
        due.is("finalsWith(-1, 0) " + when, x.finalsWith(-1, 0), -1);
    }

    private static void allIsTold(Due due, String when, RenamingGrid x) {
        due.is("finalCount() " + when, x.finalCount(), 8);
        due.is("violationCount() " + when, x.violationCount(), 0);
        due.is("violationStep(0) " + when, x.violationStep(0), -9);
        due.is("greatestDepth() " + when, x.greatestDepth(), 14);
        due.is("greatestName() " + when, x.greatestName(), 2);
        due.is("outcomeCount() " + when, x.outcomeCount(), 6);
        due.is("finalsWith(0, 0) " + when, x.finalsWith(0, 0), 3);
    }

    private static void nothingToldBefore(Due due) {
        nothingIsTold(due, "on a new object", new RenamingGrid());
    }

    private static void whatEndsTheTelling(Due due) {
        RenamingGrid x = new RenamingGrid();
        x.save(0);
        x.explore();
        x.step(0);
        nothingIsTold(due, "after step()", x);
        due.is("explore()", x.explore() > 0 ? 1 : 0, 1);
        x.undo();
        nothingIsTold(due, "after undo()", x);
        due.is("explore()", x.explore(), 165);
        x.crash(1);
        nothingIsTold(due, "after crash()", x);
        due.is("explore()", x.explore(), 5);
        x.restore(0);
        nothingIsTold(due, "after restore()", x);
        due.is("explore()", x.explore(), 165);
        x.restore(0);
        nothingIsTold(due, "after restore() of the same state", x);
        due.is("explore()", x.explore(), 165);
        x.configure(3, 2, 0);
        nothingIsTold(due, "after configure() to the same state", x);
        due.is("explore()", x.explore(), 165);
        Due.type(x, "1;");
        x.runText();
        nothingIsTold(due, "after runText()", x);
    }

    private static void whatDoesNotEndTheTelling(Due due) {
        RenamingGrid x = new RenamingGrid();
        x.crash(0);
        x.undo();
        x.explore();
        due.is("undo()", x.undo(), -2);
        due.is("restore(0)", x.restore(0), -2);
        due.is("restore(2)", x.restore(2), -1);
        due.is("step(2)", x.step(2), -1);
        due.is("crash(-1)", x.crash(-1), -1);
        due.is("configure(5, 2, 0)", x.configure(5, 2, 0), -1);
        due.is("runText()", x.runText(), -10);
        allIsTold(due, "after calls that failed", x);
        due.is("append(48)", x.append(48), 1);
        due.is("clearText()", x.clearText(), 1);
        due.is("save(0)", x.save(0), 2);
        due.is("save(1)", x.save(1), 2);
        due.is("soloSteps(0)", x.soloSteps(0), 4);
        due.is("soloName(1)", x.soloName(1), 0);
        due.is("status(0)", x.status(0), 0);
        allIsTold(due, "after calls that can't change the state", x);
        allIsTold(due, "once more", x);
        due.is("explore() saves nothing", x.undo(), -2);
        x = Due.grid(2, 1, 0);
        Due.steps(x, 0, 0, 0, 0);
        due.is("explore()", x.explore(), 1);
        due.is("step(0)", x.step(0), -2);
        due.is("crash(0)", x.crash(0), -2);
        due.is("finalCount()", x.finalCount(), 1);
    }

    private static void wrongArguments(Due due) {
        int[] names = {0, 0, 3, 6, 10};
        for (int size = 2; size <= 4; size++) {
            for (int processes = 1; processes <= 2; processes++) {
                RenamingGrid x = Due.grid(size, processes, 0);
                x.explore();
                for (int p : new int[] {-1, processes, Integer.MIN_VALUE, Integer.MAX_VALUE}) {
                    due.is("finalsWith(" + p + ", 0)", x.finalsWith(p, 0), -1);
                }
                for (int n : new int[] {-1, -9, names[size], Integer.MIN_VALUE, Integer.MAX_VALUE}) {
                    due.is("finalsWith(0, " + n + ")", x.finalsWith(0, n), -1);
                }
                due.is("finalsWith(0, last)", x.finalsWith(0, names[size] - 1), size == 2 && processes == 2 ? 2 : 0);
                due.is("violationStep(-1)", x.violationStep(-1), -1);
                due.is("violationStep(least)", x.violationStep(Integer.MIN_VALUE), -1);
                due.is("violationStep(greatest)", x.violationStep(Integer.MAX_VALUE), -9);
            }
        }
    }

    private static void tooManyConfigurations(Due due) {
        RenamingGrid x = Due.grid(2, 3, 0);
        due.is("explore() of 6283", x.explore(), -3);
        nothingIsTold(due, "after explore() failed", x);
        due.is("explore() of 6283 again", x.explore(), -3);
        x.step(0);
        due.is("explore() of 3944", x.explore(), 3944);
        due.is("finalCount()", x.finalCount() > 0 ? 1 : 0, 1);
        x.configure(3, 3, 0);
        due.is("explore() of 14887", x.explore(), -3);
        nothingIsTold(due, "after explore() failed, following one that did not", x);
        Due.steps(x, 0, 1);
        due.is("explore() of 4656", x.explore(), -3);
        x.step(2);
        due.is("explore() of 4366", x.explore(), -3);
        due.is("stepsOf(2)", x.stepsOf(2), 1);
        due.is("undo(): explore() has saved nothing", x.undo(), 5);
        x.configure(4, 3, 2);
        due.is("explore() of 3697", x.explore(), 3697);
        x.crash(0);
        due.is("explore()", x.explore(), 101);
    }

    private static void waysToViolations(Due due) {
        way(due, Due.grid(2, 2, 1), 0, 0, 0, 1, 1, 1);
        way(due, Due.grid(2, 2, 2), 0, 0, 0, 1, 1, 0, 1, 1);
        way(due, Due.grid(4, 3, 1), 0, 0, 0, 1, 1, 1);
        way(due, Due.grid(3, 3, 2), 0, 0, 0, 1, 1, 0, 1, 1);
        RenamingGrid x = Due.grid(3, 3, 1);
        x.crash(0);
        way(due, x, 1, 1, 1, 2, 2, 2);
        x = Due.grid(3, 3, 1);
        x.crash(1);
        way(due, x, 0, 0, 0, 2, 2, 2);
        x = Due.grid(3, 3, 1);
        x.step(2);
        way(due, x, 2, 2, 0, 0, 0);
        x = Due.grid(3, 3, 1);
        Due.steps(x, 2, 2, 2);
        way(due, x, 0, 0, 0);
        x = Due.grid(3, 2, 0);
        x.crash(0);
        way(due, x);
    }

    /** Tells the way from violationStep(), which leads to a violation, and ends then. */
    private static void way(Due due, RenamingGrid x, int... way) {
        due.is("explore()", x.explore() > 0 ? 1 : 0, 1);
        for (int i = 0; i < way.length; i++) {
            due.is("violationStep(" + i + ")", x.violationStep(i), way[i]);
        }
        due.is("violationStep(length)", x.violationStep(way.length), -9);
        due.is("violationStep(length + 1)", x.violationStep(way.length + 1), -9);
        if (way.length > 0) {
            int before = x.violationCount();
            Due.steps(x, way);
            x.explore();
            due.is("a violation comes first then", x.violationStep(0), -9);
            due.is("violationCount()", x.violationCount() >= 1 && x.violationCount() <= before ? 1 : 0, 1);
        }
    }

    private static void violationAtOnce(Due due) {
        RenamingGrid x = Due.grid(2, 3, 1);
        Due.steps(x, 0, 0, 0, 1, 1, 1);
        x.crash(2);
        due.is("explore()", x.explore(), 1);
        due.is("violationCount()", x.violationCount(), 1);
        due.is("violationStep(0)", x.violationStep(0), -9);
        due.is("greatestDepth()", x.greatestDepth(), 0);
        due.is("finalCount()", x.finalCount(), 1);
        x.undo();
        due.is("explore()", x.explore(), 4);
        due.is("violationCount()", x.violationCount(), 4);
        due.is("violationStep(0)", x.violationStep(0), -9);
        due.is("finalCount()", x.finalCount(), 1);
        due.is("finalsWith(2, 0)", x.finalsWith(2, 0), 1);
    }

    /** Out and crashed count as the same, and named processes keep theirs apart. */
    private static void outcomesOfEnds(Due due) {
        RenamingGrid x = Due.grid(2, 3, 0);
        Due.steps(x, 0, 0, 0, 0, 1, 1, 1, 1, 1, 1);
        due.is("explore(): 2 goes out", x.explore(), 5);
        due.is("outcomeCount()", x.outcomeCount(), 1);
        due.is("finalsWith(0, 0)", x.finalsWith(0, 0), 1);
        due.is("finalsWith(1, 1)", x.finalsWith(1, 1), 1);
        due.is("finalsWith(2, 0)", x.finalsWith(2, 0), 0);
        x.crash(2);
        due.is("explore()", x.explore(), 1);
        due.is("outcomeCount()", x.outcomeCount(), 1);
        due.is("finalsWith(2, 0)", x.finalsWith(2, 0), 0);
        x.configure(2, 2, 0);
        x.crash(0);
        x.crash(1);
        due.is("explore()", x.explore(), 1);
        due.is("finalCount()", x.finalCount(), 1);
        due.is("outcomeCount()", x.outcomeCount(), 1);
        due.is("finalsWith(0, 0): crashed at 0", x.finalsWith(0, 0), 0);
        due.is("violationCount(): crashed at the same splitter", x.violationCount(), 0);
    }

    private static void greatestNames(Due due) {
        RenamingGrid x = Due.grid(3, 1, 0);
        x.crash(0);
        due.is("explore()", x.explore(), 1);
        due.is("greatestName() of a crashed one", x.greatestName(), -9);
        due.is("finalCount()", x.finalCount(), 1);
        due.is("outcomeCount()", x.outcomeCount(), 1);
        // 0 crashes with the door of the first splitter closed; 1 goes out of reach of name 0.
        x.configure(2, 2, 0);
        Due.steps(x, 0, 0, 0);
        x.crash(0);
        due.is("explore()", x.explore(), 7);
        due.is("greatestName()", x.greatestName(), 1);
        due.is("finalsWith(1, 1)", x.finalsWith(1, 1), 1);
        due.is("finalsWith(1, 0)", x.finalsWith(1, 0), 0);
        x.configure(3, 3, 0);
        Due.steps(x, 0, 1, 2, 0, 1, 2, 0, 1, 0, 1, 0, 0, 0, 1, 0);
        due.is("splitterOf(0)", x.splitterOf(0), 5);
        due.is("explore()", x.explore() > 0 ? 1 : 0, 1);
        due.is("greatestName()", x.greatestName(), 5);
        due.is("finalsWith(0, 5)", x.finalsWith(0, 5), x.finalCount());
    }

    /** All that is told, at each point of some ways through each kind of grid. */
    private static void likeTheModel(Due due) {
        String[] ways = {"", "0", "00", "00120", "0120121201", "222001122", "1201201201", "2100012221"};
        for (int kind = 0; kind < 27; kind++) {
            for (String way : ways) {
                RenamingGrid x = new RenamingGrid();
                Model m = new Model();
                int size = 2 + kind / 9;
                int processes = 1 + kind / 3 % 3;
                int program = kind % 3;
                due.is("configure", x.configure(size, processes, program), m.configure(size, processes, program));
                for (int i = 0; i < way.length(); i++) {
                    due.is("step", x.step(way.charAt(i) - '0'), m.step(way.charAt(i) - '0'));
                }
                compare(due, " of kind " + kind + " after " + way, x, m);
                due.is("crash(0)", x.crash(0), m.crash(0));
                compare(due, " of kind " + kind + " after " + way + " and a crash", x, m);
            }
        }
    }

    private static void compare(Due due, String at, RenamingGrid x, Model m) {
        due.is("explore()" + at, x.explore(), m.explore());
        due.is("finalCount()" + at, x.finalCount(), m.finalCount());
        due.is("violationCount()" + at, x.violationCount(), m.violationCount());
        due.is("greatestDepth()" + at, x.greatestDepth(), m.greatestDepth());
        due.is("greatestName()" + at, x.greatestName(), m.greatestName());
        due.is("outcomeCount()" + at, x.outcomeCount(), m.outcomeCount());
        for (int p = 0; p < m.processCount(); p++) {
            for (int name = 0; name < m.nameCount(); name++) {
                due.is("finalsWith(" + p + ", " + name + ")" + at, x.finalsWith(p, name), m.finalsWith(p, name));
            }
        }
        for (int i = 0; i < 14; i++) {
            due.is("violationStep(" + i + ")" + at, x.violationStep(i), m.violationStep(i));
        }
    }
}
