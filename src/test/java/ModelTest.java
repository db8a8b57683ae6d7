import java.util.Random;

/** Runs of almost 512 calls, drawn from a fixed seed, on the class and on the model beside it. */
public final class ModelTest {
    private static final int RUNS = 150;
    /** An act and two looks after it, at most 90 calls with a full text, are still within 512. */
    private static final int CALLS = 420;
    private static final String CHARACTERS = "0011223456789**;;;;;;  x";
    private static final String[] SCHEDULES = {
        "0;1;", "0*3; 1*2;", "1*30;", "2*4;1;0*7;", "0;0;1*4;", "0*31;", "1 * 12 ; 0", "2;",
        "0*4;1*30;2*30;", " 1*5;0*6; ", "0*05;", "00;", "1;2*9;0*9;", "",
    };
    private static final int[] EDGES = {
        Integer.MIN_VALUE, -2, -1, 0, 1, 2, 3, 4, 5, 6, 9, 10, 11, 255, 256, Integer.MAX_VALUE,
    };

    private final Random random;
    private final RenamingGrid grid = new RenamingGrid();
    private final Model model = new Model();
    private final Due due;
    private final StringBuilder told = new StringBuilder();
    private int calls;

    private ModelTest(Due due, long seed) {
        this.due = due;
        this.random = new Random(seed);
    }

    public static void main(String[] args) {
        Due due = new Due("ModelTest");
        for (int run = 0; run < RUNS && due.wrong() == 0; run++) {
            ModelTest test = new ModelTest(due, run);
            test.play();
            if (due.wrong() != 0) {
                System.out.println("calls of run " + run + ": " + test.told);
            }
        }
        due.end();
    }

    private void play() {
        while (calls < CALLS && due.wrong() == 0) {
            act(random.nextInt(100));
            if (random.nextInt(3) == 0) {
                look();
            }
        }
    }

    private void compare(String call, int got, int want) {
        calls++;
        told.append(call).append(" = ").append(want).append("; ");
        due.is(call, got, want);
    }

    /** Mostly a number below the bound, sometimes one at or far beyond an edge. */
    private int number(int bound) {
        return random.nextInt(12) == 0 ? EDGES[random.nextInt(EDGES.length)] : random.nextInt(bound);
    }

    private void act(int choice) {
        if (choice < 45) {
            int p = number(model.processCount());
            compare("step(" + p + ")", grid.step(p), model.step(p));
        } else if (choice < 48) {
            int p = number(3);
            compare("crash(" + p + ")", grid.crash(p), model.crash(p));
        } else if (choice < 54) {
            int size = random.nextInt(15) == 0 ? number(5) : 2 + random.nextInt(3);
            int processes = random.nextInt(15) == 0 ? number(4) : 1 + random.nextInt(3);
            int program = random.nextInt(15) == 0 ? number(4) : random.nextInt(3);
            compare("configure(" + size + ", " + processes + ", " + program + ")",
                    grid.configure(size, processes, program),
                    model.configure(size, processes, program));
        } else if (choice < 66) {
            schedule();
        } else if (choice < 74) {
            compare("undo()", grid.undo(), model.undo());
        } else if (choice < 79) {
            int slot = number(2);
            compare("save(" + slot + ")", grid.save(slot), model.save(slot));
        } else if (choice < 83) {
            int slot = number(2);
            compare("restore(" + slot + ")", grid.restore(slot), model.restore(slot));
        } else if (choice < 90) {
            compare("explore()", grid.explore(), model.explore());
            lookAtExploration();
        } else {
            look();
        }
    }

    private void schedule() {
        if (random.nextInt(4) == 0) {
            compare("clearText()", grid.clearText(), model.clearText());
        }
        String text = SCHEDULES[random.nextInt(SCHEDULES.length)];
        for (int i = 0; i < text.length(); i++) {
            append(text.charAt(i));
        }
        for (int i = random.nextInt(6) - 3; i > 0; i--) {
            append(CHARACTERS.charAt(random.nextInt(CHARACTERS.length())));
        }
        if (random.nextInt(10) == 0) {
            append(number(256));
        }
        compare("runText()", grid.runText(), model.runText());
    }

    private void append(int character) {
        compare("append(" + character + ")", grid.append(character), model.append(character));
    }

    private void look() {
        int p = number(model.processCount());
        compare("status(" + p + ")", grid.status(p), model.status(p));
        compare("splitterOf(" + p + ")", grid.splitterOf(p), model.splitterOf(p));
        compare("phaseOf(" + p + ")", grid.phaseOf(p), model.phaseOf(p));
        compare("stepsOf(" + p + ")", grid.stepsOf(p), model.stepsOf(p));
        compare("soloSteps(" + p + ")", grid.soloSteps(p), model.soloSteps(p));
        compare("soloName(" + p + ")", grid.soloName(p), model.soloName(p));
        int s = number(model.nameCount());
        compare("owner(" + s + ")", grid.owner(s), model.owner(s));
        compare("door(" + s + ")", grid.door(s), model.door(s));
        compare("entered(" + s + ")", grid.entered(s), model.entered(s));
        int d = number(2);
        compare("left(" + s + ", " + d + ")", grid.left(s, d), model.left(s, d));
        compare("nameCount()", grid.nameCount(), model.nameCount());
        compare("processCount()", grid.processCount(), model.processCount());
        if (random.nextInt(4) == 0) {
            lookAtExploration();
        }
    }

    private void lookAtExploration() {
        compare("finalCount()", grid.finalCount(), model.finalCount());
        compare("violationCount()", grid.violationCount(), model.violationCount());
        compare("greatestDepth()", grid.greatestDepth(), model.greatestDepth());
        compare("greatestName()", grid.greatestName(), model.greatestName());
        compare("outcomeCount()", grid.outcomeCount(), model.outcomeCount());
        int p = number(model.processCount());
        int name = number(model.nameCount());
        compare("finalsWith(" + p + ", " + name + ")", grid.finalsWith(p, name), model.finalsWith(p, name));
        int index = random.nextInt(2) == 0 ? number(20) : number(4);
        compare("violationStep(" + index + ")", grid.violationStep(index), model.violationStep(index));
    }
}
