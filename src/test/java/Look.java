import java.util.LinkedHashMap;
import java.util.Map;

/** Reads all that an object tells, as texts that can be compared. */
final class Look {
    interface Query {
        int ask(RenamingGrid grid, int argument);
    }

    static final Map<String, Query> OF_A_PROCESS = new LinkedHashMap<>();
    static final Map<String, Query> OF_A_SPLITTER = new LinkedHashMap<>();

    /** Numbers that a shift, a mask or a narrower type would take for small ones. */
    static final int[] FAR = {
        Integer.MIN_VALUE, Integer.MIN_VALUE + 1, -65536, -256, -64, -32, -9, -8, -2,
        16, 32, 64, 256, 257, 65536, 65537, Integer.MAX_VALUE - 1, Integer.MAX_VALUE,
    };

    static {
        OF_A_PROCESS.put("status", RenamingGrid::status);
        OF_A_PROCESS.put("splitterOf", RenamingGrid::splitterOf);
        OF_A_PROCESS.put("phaseOf", RenamingGrid::phaseOf);
        OF_A_PROCESS.put("stepsOf", RenamingGrid::stepsOf);
        OF_A_PROCESS.put("soloSteps", RenamingGrid::soloSteps);
        OF_A_PROCESS.put("soloName", RenamingGrid::soloName);
        OF_A_SPLITTER.put("owner", RenamingGrid::owner);
        OF_A_SPLITTER.put("door", RenamingGrid::door);
        OF_A_SPLITTER.put("entered", RenamingGrid::entered);
        OF_A_SPLITTER.put("left to the right of", (x, splitter) -> x.left(splitter, 0));
        OF_A_SPLITTER.put("left downwards of", (x, splitter) -> x.left(splitter, 1));
    }

    private Look() {
    }

    /** At most 70 calls. */
    static String atState(RenamingGrid x) {
        int names = x.nameCount();
        int processes = x.processCount();
        StringBuilder text = new StringBuilder();
        text.append(names).append(" names");
        for (int process = 0; process < processes; process++) {
            text.append("; process ").append(process).append(':');
            for (Query query : OF_A_PROCESS.values()) {
                text.append(' ').append(query.ask(x, process));
            }
        }
        for (int splitter = 0; splitter < names; splitter++) {
            text.append("; splitter ").append(splitter).append(':');
            for (Query query : OF_A_SPLITTER.values()) {
                text.append(' ').append(query.ask(x, splitter));
            }
        }
        return text.toString();
    }

    /** What is told of the latest exploration, if anything is. */
    static String atExploration(RenamingGrid x) {
        int names = x.nameCount();
        int processes = x.processCount();
        StringBuilder text = new StringBuilder();
        text.append(x.finalCount()).append(" finals, ").append(x.violationCount()).append(" violations, depth ")
                .append(x.greatestDepth()).append(", name ").append(x.greatestName()).append(", ")
                .append(x.outcomeCount()).append(" outcomes, way");
        for (int index = 0; index < 16; index++) {
            text.append(' ').append(x.violationStep(index));
        }
        for (int process = 0; process < processes; process++) {
            text.append("; finals with ").append(process).append(':');
            for (int name = 0; name < names; name++) {
                text.append(' ').append(x.finalsWith(process, name));
            }
        }
        return text.toString();
    }

    /** What a new exploration finds: it tells the program, too. */
    static String atFuture(RenamingGrid x) {
        return x.explore() + " configurations: " + atExploration(x);
    }

    /** Takes all saved states back: at most 45 calls for each of them in a grid of size 3. */
    static String atSaved(RenamingGrid x) {
        StringBuilder text = new StringBuilder();
        int left = 0;
        for (int i = 0; i < 9 && left >= 0; i++) {
            left = x.undo();
            int names = x.nameCount();
            int processes = x.processCount();
            text.append("undo() = ").append(left).append(": ").append(names).append(" names");
            for (int process = 0; process < processes; process++) {
                text.append(' ').append(x.status(process)).append(x.splitterOf(process))
                        .append(x.phaseOf(process)).append(x.stepsOf(process));
            }
            for (int splitter = 0; splitter < names; splitter++) {
                text.append(' ').append(x.owner(splitter)).append(x.door(splitter)).append(x.entered(splitter))
                        .append(x.left(splitter, 0)).append(x.left(splitter, 1));
            }
            text.append('\n');
        }
        return text.toString();
    }

    /** Runs the text, which tells what its characters are. */
    static String atText(RenamingGrid x) {
        return x.append(';') + " = append(59), runText() = " + x.runText() + ", clearText() = "
                + x.clearText() + ", then " + atState(x);
    }

    /** Restores both slots. */
    static String atSlots(RenamingGrid x) {
        return x.restore(0) + " = restore(0): " + atState(x) + "\n"
                + x.restore(1) + " = restore(1): " + atState(x);
    }
}
