/** Promises 16 to 19: owner, door, entered, left. */
public final class SplitterTest {
    public static void main(String[] args) {
        Due due = new Due("SplitterTest");
        wrongSplitters(due);
        everySplitterAtFirst(due);
        afterASchedule(due);
        ownersAndDoors(due);
        countsOfThree(due);
        due.end();
    }

    private static void wrongSplitters(Due due) {
        int[] names = {0, 0, 3, 6, 10};
        for (int size = 2; size <= 4; size++) {
            RenamingGrid x = Due.grid(size, 2, 0);
            for (int s : new int[] {-1, names[size], 10, 16, Integer.MIN_VALUE, Integer.MAX_VALUE}) {
                due.is("owner(" + s + ")", x.owner(s), -1);
                due.is("door(" + s + ")", x.door(s), -1);
                due.is("entered(" + s + ")", x.entered(s), -1);
                due.is("left(" + s + ", 0)", x.left(s, 0), -1);
                due.is("left(" + s + ", 1)", x.left(s, 1), -1);
            }
            for (int d : new int[] {-1, 2, Integer.MIN_VALUE, Integer.MAX_VALUE}) {
                due.is("left(0, " + d + ")", x.left(0, d), -1);
            }
            due.is("left(-1, -1)", x.left(-1, -1), -1);
        }
    }

    private static void everySplitterAtFirst(Due due) {
        for (int size = 2; size <= 4; size++) {
            RenamingGrid x = Due.grid(size, 3, 0);
            for (int s = 0; s < x.nameCount(); s++) {
                due.is("owner(" + s + ")", x.owner(s), -9);
                due.is("door(" + s + ")", x.door(s), 0);
                due.is("entered(" + s + ")", x.entered(s), s == 0 ? 3 : 0);
                due.is("left(" + s + ", 0)", x.left(s, 0), 0);
                due.is("left(" + s + ", 1)", x.left(s, 1), 0);
            }
        }
    }

    /** 0 goes down and is named 2, 1 goes right and is sent out, 2 goes right and is named 1. */
    private static void afterASchedule(Due due) {
        RenamingGrid x = Due.grid(2, 3, 0);
        Due.type(x, "0;1;0;0;1*2;2*9;0*9;1*9;");
        due.is("runText()", x.runText(), 18);
        int[] owners = {2, 2, 0};
        int[] doors = {1, 1, 1};
        int[] entered = {3, 2, 1};
        int[] right = {2, 1, 0};
        int[] down = {1, 0, 0};
        due.is("status(0)", x.status(0), 1);
        due.is("status(2)", x.status(2), 1);
        for (int s = 0; s < 3; s++) {
            due.is("owner(" + s + ")", x.owner(s), owners[s]);
            due.is("door(" + s + ")", x.door(s), doors[s]);
            due.is("entered(" + s + ")", x.entered(s), entered[s]);
            due.is("left(" + s + ", 0)", x.left(s, 0), right[s]);
            due.is("left(" + s + ", 1)", x.left(s, 1), down[s]);
        }
    }

    private static void ownersAndDoors(Due due) {
        RenamingGrid x = Due.grid(4, 3, 0);
        for (int p : new int[] {2, 0, 1}) {
            x.step(p);
            due.is("owner(0)", x.owner(0), p);
            due.is("door(0)", x.door(0), 0);
        }
        Due.steps(x, 2);
        due.is("door(0) after it was read", x.door(0), 0);
        Due.steps(x, 2);
        due.is("door(0) after it was closed", x.door(0), 1);
        due.is("owner(1)", x.owner(1), -9);
        due.is("door(1)", x.door(1), 0);
        due.is("owner(0)", x.owner(0), 1);
    }

    /** All three at once at one splitter, and then two of them gone in one direction. */
    private static void countsOfThree(Due due) {
        RenamingGrid x = Due.grid(4, 3, 0);
        Due.steps(x, 0, 1, 2, 0, 1, 2, 0, 1, 2, 0, 1);
        due.is("entered(0)", x.entered(0), 3);
        due.is("left(0, 1)", x.left(0, 1), 2);
        due.is("left(0, 0)", x.left(0, 0), 0);
        due.is("entered(2)", x.entered(2), 2);
        due.is("step(2)", x.step(2), 1);
        due.is("a named process has not left", x.left(0, 0) + x.left(0, 1), 2);
        x.configure(4, 3, 0);
        Due.steps(x, 2, 2, 2, 0, 0, 1, 1);
        due.is("left(0, 0)", x.left(0, 0), 2);
        due.is("left(0, 1)", x.left(0, 1), 0);
        due.is("entered(1)", x.entered(1), 2);
        due.is("step(2)", x.step(2), 3);
        due.is("left(0, 1)", x.left(0, 1), 1);
        due.is("entered(2)", x.entered(2), 1);
    }
}
