import java.util.function.Consumer;

/**
 * The boundary cases of promises 20 to 27 and of the document's "Exploration".
 * Each method tests the sentence that stands above it.
 */
public final class BoundaryExplorationTest {
    private BoundaryExplorationTest() {
    }

    public static void main(String[] args) {
        Due due = new Due("BoundaryExplorationTest");
        reachableByNoSteps(due);
        whoIsOutIsAtNoSplitter(due);
        moreThan4000(due);
        tooManyThen(due);
        stateStaysAndNothingIsSaved(due);
        beforeTheFirstExploration(due);
        afterAnExplorationThatFailed(due);
        afterCallsThatCanChangeTheState(due);
        afterCallsThatFailed(due);
        afterCallsThatCannotChangeTheState(due);
        aNewExplorationIsToldOf(due);
        anEarlierExplorationIsForgotten(due);
        theLastOfAnEarlierExploration(due);
        finals(due);
        violations(due);
        whatIsNoViolation(due);
        stepsOfAWayToAViolation(due);
        smallestOfTheShortestWays(due);
        noStepsToAViolation(due);
        noReachableViolation(due);
        depths(due);
        shortestOfDifferentWays(due);
        greatestNames(due);
        noNameAtAll(due);
        outcomes(due);
        outAndCrashedCountAsTheSame(due);
        argumentsOfFinalsWith(due);
        finalsWithAName(due);
        due.end();
    }

    /** 0 is named 0, 1 is named 1, and 2 becomes out with its next step. */
    private static RenamingGrid almostOut() {
        RenamingGrid x = Due.grid(2, 3, 0);
        Due.steps(x, 0, 0, 0, 0, 1, 1, 1, 1, 1, 1, 2, 2, 2);
        return x;
    }

    /** "A configuration is reachable if it arises from the present one by some sequence of steps .., also by none." */
    private static void reachableByNoSteps(Due due) {
        RenamingGrid x = almostOut();
        due.is("explore(): one step is left", x.explore(), 2);
        x.step(2);
        due.is("explore(): no step is left", x.explore(), 1);
        due.is("finalCount()", x.finalCount(), 1);
        due.is("greatestDepth()", x.greatestDepth(), 0);
        x = Due.grid(3, 1, 0);
        x.crash(0);
        due.is("explore(): the only process crashed", x.explore(), 1);
        x.configure(4, 1, 1);
        due.is("explore(): three steps of the only process", x.explore(), 4);
    }

    /** "it is at no splitter any more": so it is one configuration, wherever a process went out. */
    private static void whoIsOutIsAtNoSplitter(Due due) {
        RenamingGrid x = Due.grid(2, 3, 2);
        due.is("explore()", x.explore(), 2647);
        due.is("finalCount()", x.finalCount(), 102);
        x.configure(2, 3, 0);
        x.step(0);
        due.is("explore()", x.explore(), 3944);
    }

    /** "CAPACITY_EXCEEDED if there are more than 4000". No state has from 3945 to 4365 of them. */
    private static void moreThan4000(Due due) {
        RenamingGrid x = Due.grid(2, 3, 0);
        x.step(0);
        due.is("explore() of 3944", x.explore(), 3944);
        due.is("greatestDepth() of 3944", x.greatestDepth() > 0 ? 1 : 0, 1);
        x.configure(3, 3, 0);
        Due.steps(x, 0, 1, 2);
        due.is("explore() of 4366", x.explore(), -3);
        x.configure(4, 3, 0);
        due.is("explore() of 14887", x.explore(), -3);
        x.configure(4, 3, 2);
        due.is("explore() of 3697", x.explore(), 3697);
    }

    /** "what was remembered of an earlier exploration stays then": it was not to be told of before, and is not after. */
    private static void tooManyThen(Due due) {
        RenamingGrid x = new RenamingGrid();
        x.save(0);
        due.is("explore()", x.explore(), 165);
        x.configure(3, 3, 0);
        due.is("explore() of 14887", x.explore(), -3);
        nothingIsTold(due, "after explore() of 14887", x);
        x.undo();
        nothingIsTold(due, "after undo() to the state that was explored", x);
        due.is("explore()", x.explore(), 165);
        due.is("finalCount()", x.finalCount(), 8);
        due.is("greatestDepth()", x.greatestDepth(), 14);
    }

    /** "The state does not change, and nothing is saved for undo()." */
    private static void stateStaysAndNothingIsSaved(Due due) {
        for (int changes = 0; changes <= 9; changes++) {
            RenamingGrid explored = changed(changes);
            explored.explore();
            String what = " after explore() and " + changes + " changes";
            due.holds("the state is the same" + what,
                    Look.atState(explored).equals(Look.atState(changed(changes))));
            due.holds("the saved states are the same" + what,
                    Look.atSaved(explored).equals(Look.atSaved(changed(changes))));
        }
        RenamingGrid x = Due.grid(3, 3, 0);
        String before = Look.atState(x);
        due.is("explore() of 14887", x.explore(), -3);
        due.holds("the state is the same after explore() of 14887", before.equals(Look.atState(x)));
        due.is("undo()", x.undo(), 0);
    }

    private static RenamingGrid changed(int changes) {
        RenamingGrid x = new RenamingGrid();
        for (int i = 0; i < changes; i++) {
            x.step(i & 1);
        }
        return x;
    }

    private static void nothingIsTold(Due due, String when, RenamingGrid x) {
        due.is("finalCount() " + when, x.finalCount(), -2);
        due.is("violationCount() " + when, x.violationCount(), -2);
        due.is("violationStep(0) " + when, x.violationStep(0), -2);
        due.is("violationStep(greatest) " + when, x.violationStep(Integer.MAX_VALUE), -2);
        due.is("greatestDepth() " + when, x.greatestDepth(), -2);
        due.is("greatestName() " + when, x.greatestName(), -2);
        due.is("outcomeCount() " + when, x.outcomeCount(), -2);
        due.is("finalsWith(0, 0) " + when, x.finalsWith(0, 0), -2);
        due.is("finalsWith(last, last) " + when,
                x.finalsWith(x.processCount() - 1, x.nameCount() - 1), -2);
    }

    /** "return ILLEGAL_STATE if there was no successful call of explore()". */
    private static void beforeTheFirstExploration(Due due) {
        nothingIsTold(due, "on a new object", new RenamingGrid());
        RenamingGrid x = new RenamingGrid();
        x.crash(0);
        x.crash(1);
        nothingIsTold(due, "on a final configuration", x);
    }

    /** "if there was no successful call of explore()": one that failed is none. */
    private static void afterAnExplorationThatFailed(Due due) {
        RenamingGrid x = Due.grid(2, 3, 0);
        due.is("explore() of 6283", x.explore(), -3);
        nothingIsTold(due, "after explore() of 6283", x);
        due.is("explore() of 6283 again", x.explore(), -3);
        nothingIsTold(due, "after explore() of 6283 twice", x);
    }

    /** "or if a call of another method that can change the state (undo() and restore() included) succeeded". */
    private static void afterCallsThatCanChangeTheState(Due due) {
        endsTheTelling(due, "configure(2, 1, 1)", x -> x.configure(2, 1, 1));
        endsTheTelling(due, "configure() to what it was", x -> x.configure(3, 2, 0));
        endsTheTelling(due, "step(0)", x -> x.step(0));
        endsTheTelling(due, "step(1)", x -> x.step(1));
        endsTheTelling(due, "crash(0)", x -> x.crash(0));
        endsTheTelling(due, "undo()", x -> x.undo());
        endsTheTelling(due, "restore(0)", x -> x.restore(0));
        endsTheTelling(due, "restore(1) to what it was", x -> x.restore(1));
        endsTheTelling(due, "step(0) and undo()", x -> {
            x.step(0);
            x.undo();
        });
        endsTheTelling(due, "runText()", x -> {
            Due.type(x, "1*2;");
            x.runText();
        });
        RenamingGrid x = almostOut();
        due.is("explore()", x.explore(), 2);
        Due.type(x, "0*9;1;");
        due.is("runText() that makes no step", x.runText(), 0);
        nothingIsTold(due, "after runText() that makes no step", x);
    }

    private static void endsTheTelling(Due due, String call, Consumer<RenamingGrid> act) {
        RenamingGrid x = new RenamingGrid();
        x.save(1);
        x.crash(1);
        x.save(0);
        x.undo();
        x.step(0);
        x.undo();
        x.configure(3, 2, 0);
        due.is("explore() before " + call, x.explore(), 165);
        due.is("finalCount() before " + call, x.finalCount(), 8);
        act.accept(x);
        nothingIsTold(due, "after " + call, x);
        due.is("explore() after " + call, x.explore() > 0 ? 1 : 0, 1);
        due.is("finalCount() after a new explore()", x.finalCount() > 0 ? 1 : 0, 1);
    }

    private static void afterCallsThatFailed(Due due) {
        keepsTheTelling(due, "configure(1, 2, 0)", -1, x -> due.is("configure", x.configure(1, 2, 0), -1));
        keepsTheTelling(due, "step(2)", -1, x -> due.is("step(2)", x.step(2), -1));
        keepsTheTelling(due, "crash(2)", -1, x -> due.is("crash(2)", x.crash(2), -1));
        keepsTheTelling(due, "undo()", -2, x -> due.is("undo()", x.undo(), -2));
        keepsTheTelling(due, "restore(0)", -2, x -> due.is("restore(0)", x.restore(0), -2));
        keepsTheTelling(due, "restore(2)", -1, x -> due.is("restore(2)", x.restore(2), -1));
        keepsTheTelling(due, "runText()", -10, x -> due.is("runText()", x.runText(), -10));
        RenamingGrid x = Due.grid(2, 1, 1);
        Due.steps(x, 0, 0, 0);
        due.is("explore()", x.explore(), 1);
        due.is("step(0) of one that is named", x.step(0), -2);
        due.is("crash(0) of one that is named", x.crash(0), -2);
        due.is("finalsWith(0, 0)", x.finalsWith(0, 0), 1);
    }

    /** An exploration of the state at first is told of after a call that does not end the telling. */
    private static void keepsTheTelling(Due due, String call, int answer, Consumer<RenamingGrid> act) {
        RenamingGrid x = new RenamingGrid();
        due.is("explore() before " + call, x.explore(), 165);
        String before = Look.atExploration(x);
        act.accept(x);
        due.holds("the same is told after " + call + " = " + answer, before.equals(Look.atExploration(x)));
        due.is("finalCount() after " + call, x.finalCount(), 8);
    }

    private static void afterCallsThatCannotChangeTheState(Due due) {
        keepsTheTelling(due, "append(48)", 1, x -> due.is("append(48)", x.append(48), 1));
        keepsTheTelling(due, "clearText()", 0, x -> due.is("clearText()", x.clearText(), 0));
        keepsTheTelling(due, "save(0)", 2, x -> due.is("save(0)", x.save(0), 2));
        keepsTheTelling(due, "save(1)", 2, x -> due.is("save(1)", x.save(1), 2));
        keepsTheTelling(due, "explore()", 165, x -> due.is("explore()", x.explore(), 165));
        keepsTheTelling(due, "soloSteps(0)", 4, x -> due.is("soloSteps(0)", x.soloSteps(0), 4));
        keepsTheTelling(due, "soloName(0)", 0, x -> due.is("soloName(0)", x.soloName(0), 0));
    }

    /** "explore() looks at all reachable configurations and remembers what it finds": of the latest one is told. */
    private static void aNewExplorationIsToldOf(Due due) {
        RenamingGrid x = Due.grid(2, 2, 1);
        due.is("explore()", x.explore(), 49);
        due.is("violationCount()", x.violationCount(), 2);
        x.configure(3, 1, 0);
        due.is("explore()", x.explore(), 5);
        due.is("violationCount()", x.violationCount(), 0);
        due.is("violationStep(0)", x.violationStep(0), -9);
        due.is("finalCount()", x.finalCount(), 1);
        due.is("outcomeCount()", x.outcomeCount(), 1);
        due.is("greatestDepth()", x.greatestDepth(), 4);
        due.is("greatestName()", x.greatestName(), 0);
    }

    /** Of what an earlier exploration found, larger or smaller, nothing is told: as on an object that never explored. */
    private static void anEarlierExplorationIsForgotten(Due due) {
        String[] ways = {"0000", "000111", "111000", "001101", "0101010", "0011100", "1010100", "1100011"};
        for (int program = 0; program <= 2; program++) {
            for (String way : ways) {
                RenamingGrid x = Due.grid(2, 2, program);
                x.explore();
                for (int length = 1; length <= way.length(); length++) {
                    x.step(way.charAt(length - 1) - '0');
                    RenamingGrid fresh = Due.grid(2, 2, program);
                    for (int i = 0; i < length; i++) {
                        fresh.step(way.charAt(i) - '0');
                    }
                    due.holds("the same is found after " + way.substring(0, length) + " with program " + program,
                            Look.atFuture(fresh).equals(Look.atFuture(x)));
                }
                x.configure(2, 2, program);
                due.holds("the same is found again after " + way + " with program " + program,
                        Look.atFuture(Due.grid(2, 2, program)).equals(Look.atFuture(x)));
            }
        }
    }

    /** The last that an earlier exploration found has a greater name, or is a violation. */
    private static void theLastOfAnEarlierExploration(Due due) {
        RenamingGrid x = Due.grid(2, 2, 0);
        Due.steps(x, 1, 1, 1);
        x.crash(1);
        x.step(0);
        due.is("explore()", x.explore(), 6);
        due.is("greatestName()", x.greatestName(), 1);
        x.configure(2, 1, 0);
        due.is("explore()", x.explore(), 5);
        due.is("greatestName() after a greater one", x.greatestName(), 0);
        Due.steps(x, 0, 0, 0, 0);
        due.is("explore()", x.explore(), 1);
        due.is("greatestName() of the only configuration", x.greatestName(), 0);
        x.configure(2, 2, 1);
        Due.steps(x, 0, 0, 0, 1, 1);
        due.is("explore()", x.explore(), 2);
        due.is("violationStep(0)", x.violationStep(0), 1);
        x.configure(2, 2, 1);
        x.crash(0);
        x.crash(1);
        due.is("explore()", x.explore(), 1);
        due.is("violationCount() after a violation", x.violationCount(), 0);
        due.is("violationStep(0) after a violation", x.violationStep(0), -9);
    }

    /** "A configuration is final if no process is running in it." */
    private static void finals(Due due) {
        RenamingGrid x = almostOut();
        due.is("explore()", x.explore(), 2);
        due.is("finalCount(): named, named and out", x.finalCount(), 1);
        x.crash(2);
        due.is("explore()", x.explore(), 1);
        due.is("finalCount(): named, named and crashed", x.finalCount(), 1);
        x = new RenamingGrid();
        x.crash(0);
        due.is("explore()", x.explore(), 5);
        due.is("finalCount(): one of them is running before", x.finalCount(), 1);
        x = Due.grid(4, 1, 0);
        due.is("explore()", x.explore(), 5);
        due.is("finalCount()", x.finalCount(), 1);
    }

    /** "It is a violation if two processes are named with the same name in it." */
    private static void violations(Due due) {
        RenamingGrid x = Due.grid(2, 2, 1);
        Due.steps(x, 0, 0, 0, 1, 1);
        due.is("explore(): one step before a violation", x.explore(), 2);
        due.is("violationCount()", x.violationCount(), 1);
        x.step(1);
        due.is("explore(): a violation", x.explore(), 1);
        due.is("violationCount()", x.violationCount(), 1);
        for (int other = 0; other <= 1; other++) {
            x = Due.grid(2, 3, 1);
            x.crash(1 - other);
            Due.steps(x, other, other, other, 2, 2, 2);
            due.is("explore(): processes " + other + " and 2", x.explore(), 1);
            due.is("violationCount() of " + other + " and 2", x.violationCount(), 1);
        }
        x = Due.grid(2, 3, 1);
        Due.steps(x, 0, 0, 0, 1, 1, 1, 2, 2, 2);
        due.is("explore(): three with one name", x.explore(), 1);
        due.is("violationCount(): one configuration", x.violationCount(), 1);
        x.undo();
        due.is("explore(): two with one name, and 2 one step before it", x.explore(), 2);
        due.is("violationCount(): it needs not be final", x.violationCount(), 2);
    }

    /** A name is what only a named process has. */
    private static void whatIsNoViolation(Due due) {
        RenamingGrid x = Due.grid(2, 3, 1);
        Due.steps(x, 0, 0, 0, 1, 1);
        x.crash(1);
        x.crash(2);
        due.is("explore(): named and crashed at one splitter", x.explore(), 1);
        due.is("violationCount()", x.violationCount(), 0);
        due.is("violationStep(0)", x.violationStep(0), -9);
        x = almostOut();
        x.step(2);
        x.explore();
        due.is("violationCount(): named 0, named 1 and out", x.violationCount(), 0);
        x = Due.grid(3, 3, 0);
        x.crash(0);
        x.crash(1);
        x.crash(2);
        due.is("explore(): all crashed at one splitter", x.explore(), 1);
        due.is("violationCount()", x.violationCount(), 0);
    }

    /** violationStep: "index of the step, from 0"; "INVALID_ARGUMENT if index is negative"; "NONE .. if the sequence has no such step". */
    private static void stepsOfAWayToAViolation(Due due) {
        RenamingGrid x = Due.grid(2, 2, 1);
        due.is("violationStep(-1) of nothing explored", x.violationStep(-1), -1);
        due.is("explore()", x.explore(), 49);
        due.is("violationStep(-1)", x.violationStep(-1), -1);
        due.is("violationStep(-9)", x.violationStep(-9), -1);
        due.is("violationStep(least)", x.violationStep(Integer.MIN_VALUE), -1);
        due.is("violationStep(0): the first step", x.violationStep(0), 0);
        due.is("violationStep(5): the last step", x.violationStep(5), 1);
        due.is("violationStep(6): there is none", x.violationStep(6), -9);
        due.is("violationStep(7)", x.violationStep(7), -9);
        due.is("violationStep(48)", x.violationStep(48), -9);
        due.is("violationStep(256)", x.violationStep(256), -9);
        due.is("violationStep(greatest)", x.violationStep(Integer.MAX_VALUE), -9);
        x.configure(2, 2, 2);
        due.is("explore()", x.explore(), 101);
        due.is("violationStep(7): the last step", x.violationStep(7), 1);
        due.is("violationStep(8): there is none", x.violationStep(8), -9);
        Due.steps(x, 0, 0, 0, 1, 1, 0, 1);
        x.explore();
        due.is("violationStep(0): a way of one step", x.violationStep(0), 1);
        due.is("violationStep(1): there is none", x.violationStep(1), -9);
    }

    /** "of several shortest sequences the one .. that is smallest in lexicographic order of the numbers of the processes". */
    private static void smallestOfTheShortestWays(Due due) {
        RenamingGrid x = Due.grid(3, 3, 1);
        isWay(due, x, 0, 0, 0, 1, 1, 1);
        x.crash(0);
        isWay(due, x, 1, 1, 1, 2, 2, 2);
        x.undo();
        x.crash(1);
        isWay(due, x, 0, 0, 0, 2, 2, 2);
        x.undo();
        // Shorter is a way that goes on with what process 2 has begun.
        Due.steps(x, 2, 2);
        isWay(due, x, 2, 0, 0, 0);
        x.configure(2, 3, 2);
        isWay(due, x, 0, 0, 0, 1, 1, 0, 1, 1);
        Due.steps(x, 2, 2, 2);
        isWay(due, x, 0, 0, 0, 0, 2);
    }

    private static void isWay(Due due, RenamingGrid x, int... way) {
        due.is("explore()", x.explore() > 0 ? 1 : 0, 1);
        for (int i = 0; i < way.length; i++) {
            due.is("violationStep(" + i + ") of a way of " + way.length, x.violationStep(i), way[i]);
        }
        due.is("violationStep(length) of a way of " + way.length, x.violationStep(way.length), -9);
    }

    /** The shortest sequence has no step if the present configuration is a violation. */
    private static void noStepsToAViolation(Due due) {
        RenamingGrid x = Due.grid(2, 3, 1);
        Due.steps(x, 0, 0, 0, 1, 1, 1);
        due.is("explore()", x.explore() > 1 ? 1 : 0, 1);
        due.is("violationCount()", x.violationCount() > 1 ? 1 : 0, 1);
        due.is("violationStep(0)", x.violationStep(0), -9);
        due.is("violationStep(-1)", x.violationStep(-1), -1);
    }

    /** "NONE if there is no reachable violation". */
    private static void noReachableViolation(Due due) {
        RenamingGrid x = new RenamingGrid();
        due.is("explore()", x.explore(), 165);
        due.is("violationCount()", x.violationCount(), 0);
        due.is("violationStep(0)", x.violationStep(0), -9);
        due.is("violationStep(1)", x.violationStep(1), -9);
        due.is("violationStep(-1)", x.violationStep(-1), -1);
        x.configure(4, 1, 1);
        due.is("explore()", x.explore(), 4);
        due.is("violationStep(0): one process alone", x.violationStep(0), -9);
    }

    /** "Its depth is the smallest number of steps of such a sequence"; "Returns the greatest depth". */
    private static void depths(Due due) {
        RenamingGrid x = new RenamingGrid();
        due.is("explore()", x.explore(), 165);
        due.is("greatestDepth()", x.greatestDepth(), 14);
        for (int program = 0; program <= 2; program++) {
            x = Due.grid(2, 1, program);
            for (int left = program == 1 ? 3 : 4; left >= 0; left--) {
                due.is("explore()", x.explore(), left + 1);
                due.is("greatestDepth() with " + left + " steps left", x.greatestDepth(), left);
                x.step(0);
            }
        }
        x = new RenamingGrid();
        x.crash(0);
        x.crash(1);
        x.explore();
        due.is("greatestDepth() with none running", x.greatestDepth(), 0);
    }

    /** "the smallest number of steps of such a sequence": who goes out can do so in a different number of steps. */
    private static void shortestOfDifferentWays(Due due) {
        RenamingGrid x = Due.grid(2, 3, 0);
        Due.steps(x, 0, 1, 0, 0, 2, 0);
        due.is("explore()", x.explore(), 300);
        due.is("greatestDepth(): 14 steps are possible", x.greatestDepth(), 13);
        x.configure(2, 3, 0);
        Due.steps(x, 2, 2, 1, 0, 2);
        due.is("explore()", x.explore(), 360);
        due.is("greatestDepth(): 15 steps are possible", x.greatestDepth(), 14);
        x.configure(2, 3, 0);
        x.step(0);
        due.is("explore()", x.explore(), 3944);
        due.is("greatestDepth(): 21 steps are possible", x.greatestDepth(), 20);
        x.configure(4, 3, 2);
        due.is("explore()", x.explore(), 3697);
        due.is("greatestDepth(), where none goes out", x.greatestDepth(), 21);
    }

    /** "Returns the greatest name that some process has in some reachable configuration." */
    private static void greatestNames(Due due) {
        RenamingGrid x = Due.grid(4, 1, 0);
        x.explore();
        due.is("greatestName(): 0, which is not NONE", x.greatestName(), 0);
        x.configure(4, 2, 0);
        x.explore();
        due.is("greatestName() of two", x.greatestName(), 2);
        x.configure(4, 3, 2);
        x.explore();
        due.is("greatestName() of three", x.greatestName(), 5);
        x.configure(2, 3, 2);
        x.explore();
        due.is("greatestName() of three in the smallest grid", x.greatestName(), 2);
        x = almostOut();
        x.explore();
        due.is("greatestName(): one that a process has already", x.greatestName(), 1);
        x = Due.grid(3, 2, 0);
        Due.steps(x, 0, 0, 0);
        x.crash(0);
        x.explore();
        due.is("greatestName(): the crashed one has none", x.greatestName(), 1);
    }

    /** "NONE if no process is named in any of them". */
    private static void noNameAtAll(Due due) {
        RenamingGrid x = new RenamingGrid();
        due.is("greatestName() of nothing explored", x.greatestName(), -2);
        x.crash(0);
        x.crash(1);
        due.is("greatestName() before explore()", x.greatestName(), -2);
        due.is("explore()", x.explore(), 1);
        due.is("greatestName(): both crashed", x.greatestName(), -9);
        x.undo();
        due.is("explore()", x.explore(), 5);
        due.is("greatestName(): process 1 can have one", x.greatestName(), 0);
    }

    /** "Counts the different outcomes." */
    private static void outcomes(Due due) {
        RenamingGrid x = new RenamingGrid();
        due.is("explore()", x.explore(), 165);
        due.is("finalCount()", x.finalCount(), 8);
        due.is("outcomeCount(): fewer than finals", x.outcomeCount(), 6);
        x.configure(2, 2, 2);
        due.is("explore()", x.explore(), 101);
        due.is("outcomeCount()", x.outcomeCount(), 5);
        x.configure(3, 1, 0);
        due.is("explore()", x.explore(), 5);
        due.is("outcomeCount(): running is no outcome", x.outcomeCount(), 1);
        x.crash(0);
        due.is("explore()", x.explore(), 1);
        due.is("outcomeCount(): crashed", x.outcomeCount(), 1);
    }

    /** "that it is out or crashed (these two count as the same)". */
    private static void outAndCrashedCountAsTheSame(Due due) {
        // In the smallest grid one of three can go out, to the right or down, at each edge.
        RenamingGrid x = Due.grid(2, 3, 2);
        due.is("explore()", x.explore(), 2647);
        due.is("finalCount()", x.finalCount(), 102);
        due.is("outcomeCount()", x.outcomeCount(), 31);
        x.configure(2, 3, 1);
        due.is("explore()", x.explore(), 712);
        due.is("finalCount()", x.finalCount(), 21);
        due.is("outcomeCount()", x.outcomeCount(), 13);
        x = almostOut();
        x.explore();
        due.is("outcomeCount(): 2 goes out", x.outcomeCount(), 1);
        x.crash(2);
        x.explore();
        due.is("outcomeCount(): 2 crashed", x.outcomeCount(), 1);
    }

    /** finalsWith: "name: 0 to the number of names minus 1"; "INVALID_ARGUMENT if process or name is out of range". */
    private static void argumentsOfFinalsWith(Due due) {
        int[] names = {0, 0, 3, 6, 10};
        for (int size = 2; size <= 4; size++) {
            for (int processes = 1; processes <= 3; processes++) {
                RenamingGrid x = Due.grid(size, processes, 1);
                int last = processes - 1;
                due.is("finalsWith(-1, 0) of nothing explored", x.finalsWith(-1, 0), -1);
                due.is("finalsWith(processes, 0) of nothing explored", x.finalsWith(processes, 0), -1);
                due.is("finalsWith(0, -1) of nothing explored", x.finalsWith(0, -1), -1);
                due.is("finalsWith(0, names) of nothing explored", x.finalsWith(0, names[size]), -1);
                due.is("finalsWith(0, 0) of nothing explored", x.finalsWith(0, 0), -2);
                due.is("explore()", x.explore() > 0 ? 1 : 0, 1);
                due.is("finalsWith(0, 0)", x.finalsWith(0, 0) > 0 ? 1 : 0, 1);
                due.is("finalsWith(last, 0)", x.finalsWith(last, 0) > 0 ? 1 : 0, 1);
                due.holds("there is a last name", x.finalsWith(last, names[size] - 1) >= 0);
                due.is("finalsWith(-1, 0)", x.finalsWith(-1, 0), -1);
                due.is("finalsWith(processes, 0)", x.finalsWith(processes, 0), -1);
                due.is("finalsWith(0, -1)", x.finalsWith(0, -1), -1);
                due.is("finalsWith(0, names)", x.finalsWith(0, names[size]), -1);
                due.is("finalsWith(0, -9)", x.finalsWith(0, -9), -1);
                due.is("finalsWith(-1, -1)", x.finalsWith(-1, -1), -1);
                for (int far : Look.FAR) {
                    due.is("finalsWith(" + far + ", 0)", x.finalsWith(far, 0), -1);
                    due.is("finalsWith(0, " + far + ")", x.finalsWith(0, far), -1);
                }
            }
        }
    }

    /** "Counts the reachable final configurations in which a process has a name." */
    private static void finalsWithAName(Due due) {
        RenamingGrid x = almostOut();
        due.is("explore()", x.explore(), 2);
        due.is("finalsWith(0, 0): in the final one only", x.finalsWith(0, 0), 1);
        due.is("finalsWith(1, 1)", x.finalsWith(1, 1), 1);
        due.is("finalsWith(0, 1)", x.finalsWith(0, 1), 0);
        due.is("finalsWith(2, 0): out", x.finalsWith(2, 0), 0);
        due.is("finalsWith(2, 1): out", x.finalsWith(2, 1), 0);
        x.crash(2);
        due.is("explore()", x.explore(), 1);
        due.is("finalsWith(2, 1): crashed there", x.finalsWith(2, 1), 0);
        x = Due.grid(4, 2, 0);
        due.is("explore()", x.explore(), 165);
        int all = 0;
        for (int name = 0; name < 10; name++) {
            all += x.finalsWith(1, name);
        }
        due.is("the sum of finalsWith(1, name)", all, 8);
    }
}
