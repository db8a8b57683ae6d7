import java.util.ArrayList;
import java.util.List;
import java.util.Map;
import java.util.TreeMap;
import java.util.function.Function;
import java.util.function.Supplier;
import java.util.function.ToIntFunction;

/**
 * The document's "Errors": "A call that returns an error code changes nothing.
 * If several error conditions apply, the method returns the one that its
 * description lists first; NONE is no error, and it is returned only if no
 * error condition applies." And the 512th call of an object.
 *
 * For the first sentence two objects are brought into the same situation, one
 * of them makes a call that fails, and then both must tell the same: once for
 * each of the ways of looking at all that an object holds.
 */
public final class BoundaryErrorTest {
    /** A call that is due to return an error code. */
    private record Failing(String call, int code, ToIntFunction<RenamingGrid> act) {
    }

    private final Due due;
    private final String situation;
    private final Supplier<RenamingGrid> make;
    private final Map<String, Function<RenamingGrid, String>> looks = new TreeMap<>();
    private final Map<String, String> before = new TreeMap<>();

    private BoundaryErrorTest(Due due, String situation, Supplier<RenamingGrid> make) {
        this.due = due;
        this.situation = situation;
        this.make = make;
        looks.put("the state", Look::atState);
        looks.put("what is told of an exploration", Look::atExploration);
        looks.put("what a new exploration finds", Look::atFuture);
        looks.put("what is saved", Look::atSaved);
        looks.put("the text", Look::atText);
        looks.put("the length of the text", x -> "" + x.clearText());
        looks.put("the snapshots", Look::atSlots);
        looks.forEach((what, look) -> before.put(what, look.apply(make.get())));
    }

    public static void main(String[] args) {
        Due due = new Due("BoundaryErrorTest");
        new BoundaryErrorTest(due, "a new object", RenamingGrid::new).changesNothing(onANewObject());
        new BoundaryErrorTest(due, "an explored object", BoundaryErrorTest::explored)
                .changesNothing(onAnExploredObject());
        new BoundaryErrorTest(due, "a full text", BoundaryErrorTest::fullText).changesNothing(onAFullText());
        new BoundaryErrorTest(due, "one process out", BoundaryErrorTest::oneOut).changesNothing(onOneOut());
        new BoundaryErrorTest(due, "too many configurations", BoundaryErrorTest::tooMany)
                .changesNothing(onTooMany());
        theFirstThatApplies(due);
        noneOnlyWithoutAnError(due);
        codes(due);
        the512thCall(due);
        due.end();
    }

    /** "A call that returns an error code changes nothing." */
    private void changesNothing(List<Failing> calls) {
        for (Failing failing : calls) {
            looks.forEach((what, look) -> {
                RenamingGrid x = make.get();
                due.is(failing.call + " in " + situation, failing.act.applyAsInt(x), failing.code);
                due.holds("nothing differs in " + what + " after " + failing.call + " in " + situation,
                        before.get(what).equals(look.apply(x)));
            });
        }
    }

    /** Calls that fail in every situation, with so many processes and names. */
    private static List<Failing> always(int processes, int names) {
        List<Failing> calls = new ArrayList<>();
        calls.add(new Failing("configure(1, 2, 0)", -1, x -> x.configure(1, 2, 0)));
        calls.add(new Failing("configure(5, 2, 0)", -1, x -> x.configure(5, 2, 0)));
        calls.add(new Failing("configure(2, 0, 0)", -1, x -> x.configure(2, 0, 0)));
        calls.add(new Failing("configure(2, 4, 0)", -1, x -> x.configure(2, 4, 0)));
        calls.add(new Failing("configure(2, 1, -1)", -1, x -> x.configure(2, 1, -1)));
        calls.add(new Failing("configure(2, 1, 3)", -1, x -> x.configure(2, 1, 3)));
        calls.add(new Failing("append(-1)", -1, x -> x.append(-1)));
        calls.add(new Failing("append(256)", -1, x -> x.append(256)));
        for (int p : new int[] {-1, processes, 8, 32, 64, Integer.MIN_VALUE, Integer.MAX_VALUE}) {
            calls.add(new Failing("step(" + p + ")", -1, x -> x.step(p)));
            calls.add(new Failing("crash(" + p + ")", -1, x -> x.crash(p)));
            calls.add(new Failing("finalsWith(" + p + ", 0)", -1, x -> x.finalsWith(p, 0)));
        }
        for (int p : new int[] {-1, processes}) {
            Look.OF_A_PROCESS.forEach((name, query) ->
                    calls.add(new Failing(name + "(" + p + ")", -1, x -> query.ask(x, p))));
        }
        for (int s : new int[] {-1, names}) {
            Look.OF_A_SPLITTER.forEach((name, query) ->
                    calls.add(new Failing(name + "(" + s + ")", -1, x -> query.ask(x, s))));
            calls.add(new Failing("finalsWith(0, " + s + ")", -1, x -> x.finalsWith(0, s)));
        }
        calls.add(new Failing("left(0, -1)", -1, x -> x.left(0, -1)));
        calls.add(new Failing("left(0, 2)", -1, x -> x.left(0, 2)));
        calls.add(new Failing("violationStep(-1)", -1, x -> x.violationStep(-1)));
        for (int slot : new int[] {-1, 2, Integer.MIN_VALUE, Integer.MAX_VALUE}) {
            calls.add(new Failing("save(" + slot + ")", -1, x -> x.save(slot)));
            calls.add(new Failing("restore(" + slot + ")", -1, x -> x.restore(slot)));
        }
        return calls;
    }

    private static void addNothingTold(List<Failing> calls) {
        calls.add(new Failing("finalCount()", -2, RenamingGrid::finalCount));
        calls.add(new Failing("violationCount()", -2, RenamingGrid::violationCount));
        calls.add(new Failing("violationStep(0)", -2, x -> x.violationStep(0)));
        calls.add(new Failing("greatestDepth()", -2, RenamingGrid::greatestDepth));
        calls.add(new Failing("greatestName()", -2, RenamingGrid::greatestName));
        calls.add(new Failing("outcomeCount()", -2, RenamingGrid::outcomeCount));
        calls.add(new Failing("finalsWith(0, 0)", -2, x -> x.finalsWith(0, 0)));
    }

    private static List<Failing> onANewObject() {
        List<Failing> calls = always(2, 6);
        addNothingTold(calls);
        calls.add(new Failing("runText()", -10, RenamingGrid::runText));
        calls.add(new Failing("undo()", -2, RenamingGrid::undo));
        calls.add(new Failing("restore(0)", -2, x -> x.restore(0)));
        calls.add(new Failing("restore(1)", -2, x -> x.restore(1)));
        return calls;
    }

    /** 0 is named, 1 crashed, 2 is running; eight states saved, one discarded, slot 1 full, an unfinished text. */
    private static RenamingGrid explored() {
        RenamingGrid x = Due.grid(3, 3, 2);
        Due.steps(x, 0, 0, 0, 1, 1);
        x.save(1);
        Due.steps(x, 0, 1, 2);
        x.crash(1);
        Due.type(x, "2*1; 2");
        x.explore();
        return x;
    }

    private static List<Failing> onAnExploredObject() {
        List<Failing> calls = always(3, 6);
        calls.add(new Failing("step(0) of one that is named", -2, x -> x.step(0)));
        calls.add(new Failing("step(1) of one that crashed", -2, x -> x.step(1)));
        calls.add(new Failing("crash(0) of one that is named", -2, x -> x.crash(0)));
        calls.add(new Failing("crash(1) of one that crashed", -2, x -> x.crash(1)));
        calls.add(new Failing("restore(0) of an empty slot", -2, x -> x.restore(0)));
        calls.add(new Failing("runText() of a text that ends inside an item", -16, RenamingGrid::runText));
        return calls;
    }

    /** A text of 80 characters with an error at its end, an exploration, and one saved state. */
    private static RenamingGrid fullText() {
        RenamingGrid x = new RenamingGrid();
        x.step(1);
        Due.type(x, "1*3;" + "0;".repeat(37) + "0x");
        x.explore();
        return x;
    }

    private static List<Failing> onAFullText() {
        List<Failing> calls = always(2, 6);
        calls.add(new Failing("append(0)", -3, x -> x.append(0)));
        calls.add(new Failing("append(';')", -3, x -> x.append(';')));
        calls.add(new Failing("append(255)", -3, x -> x.append(255)));
        calls.add(new Failing("runText() with an error at the end", -89, RenamingGrid::runText));
        return calls;
    }

    /** 0 and 1 are named, 2 is out; restored, so that nothing is saved; both slots full. */
    private static RenamingGrid oneOut() {
        RenamingGrid x = Due.grid(2, 3, 0);
        x.save(1);
        Due.steps(x, 0, 0, 0, 0, 1, 1, 1, 1, 1, 1, 2, 2, 2, 2);
        x.save(0);
        x.restore(0);
        Due.type(x, "2*31;");
        return x;
    }

    private static List<Failing> onOneOut() {
        List<Failing> calls = always(3, 3);
        addNothingTold(calls);
        calls.add(new Failing("step(2) of one that is out", -2, x -> x.step(2)));
        calls.add(new Failing("crash(2) of one that is out", -2, x -> x.crash(2)));
        calls.add(new Failing("undo() after restore()", -2, RenamingGrid::undo));
        calls.add(new Failing("runText() of a count that is out of range", -12, RenamingGrid::runText));
        return calls;
    }

    /** An exploration that was to be told of before configure(). */
    private static RenamingGrid tooMany() {
        RenamingGrid x = new RenamingGrid();
        x.step(1);
        x.explore();
        x.save(0);
        x.configure(2, 3, 0);
        Due.type(x, "2;1;3;");
        return x;
    }

    private static List<Failing> onTooMany() {
        List<Failing> calls = always(3, 3);
        addNothingTold(calls);
        calls.add(new Failing("explore() of 6283", -3, RenamingGrid::explore));
        calls.add(new Failing("restore(1) of an empty slot", -2, x -> x.restore(1)));
        calls.add(new Failing("runText() of a process that there isn't", -14, RenamingGrid::runText));
        return calls;
    }

    /** "If several error conditions apply, the method returns the one that its description lists first". */
    private static void theFirstThatApplies(Due due) {
        RenamingGrid x = new RenamingGrid();
        Due.type(x, " ".repeat(80));
        due.is("append(-1) to a full text", x.append(-1), -1);
        due.is("append(256) to a full text", x.append(256), -1);
        due.is("append(255) to a full text", x.append(255), -3);
        due.is("violationStep(-1) of nothing explored", x.violationStep(-1), -1);
        due.is("violationStep(0) of nothing explored", x.violationStep(0), -2);
        due.is("finalsWith(-1, 0) of nothing explored", x.finalsWith(-1, 0), -1);
        due.is("finalsWith(2, 0) of nothing explored", x.finalsWith(2, 0), -1);
        due.is("finalsWith(0, -1) of nothing explored", x.finalsWith(0, -1), -1);
        due.is("finalsWith(0, 6) of nothing explored", x.finalsWith(0, 6), -1);
        due.is("finalsWith(1, 5) of nothing explored", x.finalsWith(1, 5), -2);
        due.is("restore(2) with empty slots", x.restore(2), -1);
        due.is("restore(-1) with empty slots", x.restore(-1), -1);
        due.is("restore(1) with empty slots", x.restore(1), -2);
        x.crash(0);
        x.crash(1);
        due.is("step(2) with none running", x.step(2), -1);
        due.is("step(1) with none running", x.step(1), -2);
        due.is("crash(-1) with none running", x.crash(-1), -1);
        due.is("crash(0) with none running", x.crash(0), -2);
    }

    /** "NONE is no error, and it is returned only if no error condition applies." */
    private static void noneOnlyWithoutAnError(Due due) {
        RenamingGrid x = new RenamingGrid();
        x.crash(0);
        x.crash(1);
        due.is("greatestName() of nothing explored", x.greatestName(), -2);
        due.is("violationStep(0) of nothing explored", x.violationStep(0), -2);
        due.is("explore()", x.explore(), 1);
        due.is("greatestName() of no name", x.greatestName(), -9);
        due.is("violationStep(0) of no violation", x.violationStep(0), -9);
        due.is("violationStep(-1) of no violation", x.violationStep(-1), -1);
        due.is("owner(5) of none", x.owner(5), -9);
        due.is("owner(6) of no splitter", x.owner(6), -1);
        due.is("soloName(1) of a crashed one", x.soloName(1), -9);
        due.is("soloName(2) of no process", x.soloName(2), -1);
        x = oneOut();
        due.is("splitterOf(2) of one that is out", x.splitterOf(2), -9);
        due.is("splitterOf(3) of no process", x.splitterOf(3), -1);
        due.is("phaseOf(2) of one that is out", x.phaseOf(2), -9);
        due.is("phaseOf(3) of no process", x.phaseOf(3), -1);
        due.is("greatestDepth() asked before", x.greatestDepth(), -2);
        due.is("explore()", x.explore(), 1);
        due.is("owner(2) is NONE, and tells no change", x.owner(2), -9);
        due.is("greatestDepth() after calls that answered NONE", x.greatestDepth(), 0);
    }

    /** "INVALID_ARGUMENT = -1", "ILLEGAL_STATE = -2", "CAPACITY_EXCEEDED = -3", "NONE = -9". */
    private static void codes(Due due) {
        due.is("INVALID_ARGUMENT", RenamingGrid.INVALID_ARGUMENT, -1);
        due.is("ILLEGAL_STATE", RenamingGrid.ILLEGAL_STATE, -2);
        due.is("CAPACITY_EXCEEDED", RenamingGrid.CAPACITY_EXCEEDED, -3);
        due.is("NONE", RenamingGrid.NONE, -9);
    }

    /** "An object is used for at most 512 calls after it has been made": the last of them is answered like the first. */
    private static void the512thCall(Due due) {
        RenamingGrid x = new RenamingGrid();
        for (int call = 1; call <= 512 - 7; call++) {
            due.is("configure(3, 2, 0) as call " + call, x.configure(3, 2, 0), 6);
        }
        due.is("explore() as call 506", x.explore(), 165);
        due.is("finalCount() as call 507", x.finalCount(), 8);
        due.is("step(1) as call 508", x.step(1), 0);
        due.is("undo() as call 509", x.undo(), 7);
        due.is("undo() as call 510", x.undo(), 6);
        due.is("explore() as call 511", x.explore(), 165);
        due.is("outcomeCount() as call 512", x.outcomeCount(), 6);
        x = new RenamingGrid();
        for (int call = 1; call <= 512; call++) {
            due.is("explore() as call " + call, x.explore(), 165);
        }
        x = new RenamingGrid();
        for (int call = 1; call <= 512; call += 4) {
            due.is("step(0) as call " + call, x.step(0), 0);
            due.is("save(0)", x.save(0), 2);
            due.is("undo()", x.undo(), 0);
            due.is("stepsOf(0)", x.stepsOf(0), 0);
        }
    }
}
