import java.util.ArrayDeque;
import java.util.ArrayList;
import java.util.Arrays;
import java.util.Deque;
import java.util.HashSet;
import java.util.LinkedHashMap;
import java.util.List;
import java.util.Map;
import java.util.Set;
import java.util.regex.Matcher;
import java.util.regex.Pattern;

/**
 * The document once more, in another way: positions as rows and columns, one
 * object a process, configurations as texts. It is slow and as near to the
 * document's words as may be; ModelTest compares the class with it.
 */
final class Model {
    private static final int INVALID = -1;
    private static final int ILLEGAL = -2;
    private static final int CAPACITY = -3;
    private static final int NONE = -9;

    static final class Process {
        int status;
        int row;
        int column;
        int phase;
        int steps;
    }

    static final class World {
        int size;
        int program;
        Process[] processes;
        int[][] owner = new int[4][4];
        int[][] door = new int[4][4];
        int[][] entered = new int[4][4];
        int[][][] left = new int[2][4][4];

        static World first(int size, int processes, int program) {
            World world = new World();
            world.size = size;
            world.program = program;
            world.processes = new Process[processes];
            for (int p = 0; p < processes; p++) {
                world.processes[p] = new Process();
            }
            for (int[] row : world.owner) {
                Arrays.fill(row, NONE);
            }
            world.entered[0][0] = processes;
            return world;
        }

        World copy() {
            World copy = new World();
            copy.size = size;
            copy.program = program;
            copy.processes = new Process[processes.length];
            for (int p = 0; p < processes.length; p++) {
                Process from = processes[p];
                Process to = new Process();
                to.status = from.status;
                to.row = from.row;
                to.column = from.column;
                to.phase = from.phase;
                to.steps = from.steps;
                copy.processes[p] = to;
            }
            for (int r = 0; r < 4; r++) {
                copy.owner[r] = owner[r].clone();
                copy.door[r] = door[r].clone();
                copy.entered[r] = entered[r].clone();
                copy.left[0][r] = left[0][r].clone();
                copy.left[1][r] = left[1][r].clone();
            }
            return copy;
        }

        String configuration() {
            StringBuilder text = new StringBuilder();
            for (int r = 0; r < size; r++) {
                for (int c = 0; r + c < size; c++) {
                    text.append(owner[r][c]).append(door[r][c]).append(' ');
                }
            }
            for (Process p : processes) {
                text.append('|').append(p.status);
                if (p.status != 2) {
                    text.append(p.row).append(p.column).append(p.phase);
                }
            }
            return text.toString();
        }

        int running() {
            int running = 0;
            for (Process p : processes) {
                running += p.status == 0 ? 1 : 0;
            }
            return running;
        }

        int step(int number) {
            Process p = processes[number];
            p.steps++;
            switch (program * 10 + p.phase) {
                case 0: case 20:
                    owner[p.row][p.column] = number;
                    p.phase = 1;
                    return 0;
                case 10:
                    owner[p.row][p.column] = number;
                    p.phase = 2;
                    return 0;
                case 1: case 11: case 21:
                    if (door[p.row][p.column] == 1) {
                        return move(p, 0);
                    }
                    p.phase = 2;
                    return 0;
                case 2: case 12:
                    door[p.row][p.column] = 1;
                    p.phase = 3;
                    return 0;
                case 3: case 13:
                    if (owner[p.row][p.column] != number) {
                        return move(p, 1);
                    }
                    p.status = 1;
                    return 1;
                case 22:
                    if (owner[p.row][p.column] != number) {
                        return move(p, 1);
                    }
                    p.phase = 3;
                    return 0;
                case 23:
                    door[p.row][p.column] = 1;
                    p.status = 1;
                    return 1;
                default:
                    throw new IllegalStateException();
            }
        }

        private int move(Process p, int direction) {
            left[direction][p.row][p.column]++;
            p.row += direction;
            p.column += 1 - direction;
            if (p.row + p.column >= size) {
                p.status = 2;
                return 4;
            }
            p.phase = 0;
            entered[p.row][p.column]++;
            return 2 + direction;
        }

        int name(Process p) {
            return (p.row + p.column) * (p.row + p.column + 1) / 2 + p.row;
        }
    }

    private World world = World.first(3, 2, 0);
    private String text = "";
    private final Deque<World> saved = new ArrayDeque<>();
    private final World[] slots = new World[2];
    private boolean told;
    private Map<String, World> found = new LinkedHashMap<>();
    private Map<String, String> ways = new LinkedHashMap<>();

    private void change() {
        saved.addLast(world.copy());
        if (saved.size() > 8) {
            saved.removeFirst();
        }
        told = false;
    }

    int configure(int size, int processes, int program) {
        if (size < 2 || size > 4 || processes < 1 || processes > 3 || program < 0 || program > 2) {
            return INVALID;
        }
        change();
        world = World.first(size, processes, program);
        return nameCount();
    }

    int nameCount() {
        return world.size * (world.size + 1) / 2;
    }

    int processCount() {
        return world.processes.length;
    }

    private Process process(int number) {
        return number < 0 || number >= world.processes.length ? null : world.processes[number];
    }

    int step(int number) {
        Process p = process(number);
        if (p == null) {
            return INVALID;
        }
        if (p.status != 0) {
            return ILLEGAL;
        }
        change();
        return world.step(number);
    }

    int crash(int number) {
        Process p = process(number);
        if (p == null) {
            return INVALID;
        }
        if (p.status != 0) {
            return ILLEGAL;
        }
        change();
        p.status = 3;
        return world.running();
    }

    int append(int character) {
        if (character < 0 || character > 255) {
            return INVALID;
        }
        if (text.length() >= 80) {
            return CAPACITY;
        }
        text += (char) character;
        return text.length();
    }

    int clearText() {
        int length = text.length();
        text = "";
        return length;
    }

    int runText() {
        List<int[]> items = new ArrayList<>();
        Matcher tokens = Pattern.compile("[0-9]+|[^ ]", Pattern.DOTALL).matcher(text);
        String place = "item";
        while (tokens.find()) {
            String token = tokens.group();
            boolean number = token.matches("[0-9]|[1-9][0-9]");
            int value = number ? Integer.parseInt(token) : -1;
            if (place.equals("item") && number && value < processCount()) {
                items.add(new int[] {value, 1});
                place = "star or end";
            } else if (place.equals("star or end") && token.equals("*")) {
                place = "count";
            } else if (place.equals("count") && number && value >= 1 && value <= 30) {
                items.get(items.size() - 1)[1] = value;
                place = "end";
            } else if (place.endsWith("end") && token.equals(";")) {
                place = "item";
            } else {
                return -10 - tokens.start();
            }
        }
        if (items.isEmpty() || !place.equals("item")) {
            return -10 - text.length();
        }
        change();
        int made = 0;
        for (int[] item : items) {
            for (int i = 0; i < item[1] && world.processes[item[0]].status == 0; i++) {
                world.step(item[0]);
                made++;
            }
        }
        text = "";
        return made;
    }

    int status(int number) {
        Process p = process(number);
        return p == null ? INVALID : p.status;
    }

    int splitterOf(int number) {
        Process p = process(number);
        return p == null ? INVALID : p.status == 2 ? NONE : world.name(p);
    }

    int phaseOf(int number) {
        Process p = process(number);
        return p == null ? INVALID : p.status == 2 ? NONE : p.phase;
    }

    int stepsOf(int number) {
        Process p = process(number);
        return p == null ? INVALID : p.steps;
    }

    private World alone(int number) {
        World copy = world.copy();
        while (copy.processes[number].status == 0) {
            copy.step(number);
        }
        return copy;
    }

    int soloSteps(int number) {
        Process p = process(number);
        return p == null ? INVALID : alone(number).processes[number].steps - p.steps;
    }

    int soloName(int number) {
        if (process(number) == null) {
            return INVALID;
        }
        World end = alone(number);
        Process p = end.processes[number];
        return p.status == 1 ? end.name(p) : NONE;
    }

    private int[] position(int splitter) {
        for (int r = 0; r < world.size; r++) {
            for (int c = 0; r + c < world.size; c++) {
                if ((r + c) * (r + c + 1) / 2 + r == splitter) {
                    return new int[] {r, c};
                }
            }
        }
        return null;
    }

    int owner(int splitter) {
        int[] at = position(splitter);
        return at == null ? INVALID : world.owner[at[0]][at[1]];
    }

    int door(int splitter) {
        int[] at = position(splitter);
        return at == null ? INVALID : world.door[at[0]][at[1]];
    }

    int entered(int splitter) {
        int[] at = position(splitter);
        return at == null ? INVALID : world.entered[at[0]][at[1]];
    }

    int left(int splitter, int direction) {
        int[] at = position(splitter);
        return at == null || direction < 0 || direction > 1
                ? INVALID : world.left[direction][at[0]][at[1]];
    }

    /** Level by level; each configuration keeps the smallest of the ways of its depth. */
    int explore() {
        Map<String, World> worlds = new LinkedHashMap<>();
        Map<String, String> newWays = new LinkedHashMap<>();
        Map<String, World> level = new LinkedHashMap<>();
        level.put(world.configuration(), world.copy());
        newWays.put(world.configuration(), "");
        while (!level.isEmpty()) {
            worlds.putAll(level);
            if (worlds.size() > 4000) {
                return CAPACITY;
            }
            Map<String, World> next = new LinkedHashMap<>();
            for (Map.Entry<String, World> entry : level.entrySet()) {
                for (int p = world.processes.length - 1; p >= 0; p--) {
                    if (entry.getValue().processes[p].status != 0) {
                        continue;
                    }
                    World after = entry.getValue().copy();
                    after.step(p);
                    String key = after.configuration();
                    if (worlds.containsKey(key)) {
                        continue;
                    }
                    next.put(key, after);
                    newWays.merge(key, newWays.get(entry.getKey()) + p,
                            (a, b) -> a.compareTo(b) <= 0 ? a : b);
                }
            }
            level = next;
        }
        found = worlds;
        ways = newWays;
        told = true;
        return found.size();
    }

    int finalCount() {
        return told ? (int) found.values().stream().filter(w -> w.running() == 0).count() : ILLEGAL;
    }

    private static boolean violates(World w) {
        Set<Integer> names = new HashSet<>();
        for (Process p : w.processes) {
            if (p.status == 1 && !names.add(w.name(p))) {
                return true;
            }
        }
        return false;
    }

    int violationCount() {
        return told ? (int) found.values().stream().filter(Model::violates).count() : ILLEGAL;
    }

    int violationStep(int index) {
        if (index < 0) {
            return INVALID;
        }
        if (!told) {
            return ILLEGAL;
        }
        String best = null;
        for (Map.Entry<String, World> entry : found.entrySet()) {
            String way = ways.get(entry.getKey());
            if (violates(entry.getValue()) && (best == null || way.length() < best.length()
                    || way.length() == best.length() && way.compareTo(best) < 0)) {
                best = way;
            }
        }
        return best == null || index >= best.length() ? NONE : best.charAt(index) - '0';
    }

    int greatestDepth() {
        return told ? ways.values().stream().mapToInt(String::length).max().getAsInt() : ILLEGAL;
    }

    int greatestName() {
        if (!told) {
            return ILLEGAL;
        }
        int greatest = NONE;
        for (World w : found.values()) {
            for (Process p : w.processes) {
                greatest = p.status == 1 ? Math.max(greatest, w.name(p)) : greatest;
            }
        }
        return greatest;
    }

    int outcomeCount() {
        if (!told) {
            return ILLEGAL;
        }
        Set<String> outcomes = new HashSet<>();
        for (World w : found.values()) {
            StringBuilder outcome = new StringBuilder();
            for (Process p : w.processes) {
                outcome.append(p.status == 1 ? "n" + w.name(p) : "-");
            }
            if (w.running() == 0) {
                outcomes.add(outcome.toString());
            }
        }
        return outcomes.size();
    }

    int finalsWith(int number, int name) {
        if (process(number) == null || position(name) == null) {
            return INVALID;
        }
        if (!told) {
            return ILLEGAL;
        }
        return (int) found.values().stream().filter(w -> w.running() == 0
                && w.processes[number].status == 1 && w.name(w.processes[number]) == name).count();
    }

    int undo() {
        if (saved.isEmpty()) {
            return ILLEGAL;
        }
        world = saved.removeLast();
        told = false;
        return saved.size();
    }

    int save(int slot) {
        if (slot != 0 && slot != 1) {
            return INVALID;
        }
        slots[slot] = world.copy();
        return world.running();
    }

    int restore(int slot) {
        if (slot != 0 && slot != 1) {
            return INVALID;
        }
        if (slots[slot] == null) {
            return ILLEGAL;
        }
        world = slots[slot].copy();
        saved.clear();
        told = false;
        return world.running();
    }
}
