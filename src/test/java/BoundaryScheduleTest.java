/**
 * The boundary cases of promises 7 to 9 and of the document's "Schedules".
 * Each method tests the sentence that stands above it.
 */
public final class BoundaryScheduleTest {
    private static final String EIGHTY_SPACES = " ".repeat(80);

    private BoundaryScheduleTest() {
    }

    public static void main(String[] args) {
        Due due = new Due("BoundaryScheduleTest");
        charactersThatAppendTakes(due);
        lengthsThatAppendAnswers(due);
        aTextOf80Characters(due);
        roomAgainAfterClearText(due);
        roomAgainAfterRunText(due);
        lengthsThatClearTextAnswers(due);
        noItem(due);
        everyItemEndsWithASemicolon(due);
        numbersOfProcesses(due);
        countsFrom1To30(due);
        withoutACount(due);
        numbersOfOneAndTwoDigits(due);
        maximalRunsOfDigits(due);
        everyCharacterAlone(due);
        spacesAroundTokens(due);
        spacesInsideNumbers(due);
        theFirstTokenThatIsNotAllowed(due);
        endInsideAnItem(due);
        untilItHasMadeAsManySteps(due);
        untilItIsNotRunning(due);
        itemsInOrder(due);
        numberOfSteps(due);
        textsThatAreNoSchedules(due);
        due.end();
    }

    /** Answers what runText() says of a text on a new object with some processes. */
    private static int run(int processes, String text) {
        RenamingGrid x = Due.grid(3, processes, 0);
        Due.type(x, text);
        return x.runText();
    }

    private static void isRefused(Due due, int processes, String text, int position) {
        due.is("runText() of \"" + text + "\" for " + processes, run(processes, text), -10 - position);
    }

    private static void isExecuted(Due due, int processes, String text, int steps) {
        due.is("runText() of \"" + text + "\" for " + processes, run(processes, text), steps);
    }

    /** append: "character code, 0 to 255"; "INVALID_ARGUMENT if character is out of range". */
    private static void charactersThatAppendTakes(Due due) {
        RenamingGrid x = new RenamingGrid();
        due.is("append(0)", x.append(0), 1);
        due.is("append(-1)", x.append(-1), -1);
        due.is("append(255)", x.append(255), 2);
        due.is("append(256)", x.append(256), -1);
        due.is("append(256 + '0')", x.append(256 + '0'), -1);
        due.is("append(65536 + '0')", x.append(65536 + '0'), -1);
        due.is("append(least)", x.append(Integer.MIN_VALUE), -1);
        due.is("append(greatest)", x.append(Integer.MAX_VALUE), -1);
        due.is("append('0')", x.append('0'), 3);
        due.is("clearText(): none of the wrong ones was appended", x.clearText(), 3);
        for (int character = 0; character <= 255; character++) {
            if (character % 80 == 0) {
                x.clearText();
            }
            due.is("append(" + character + ")", x.append(character), character % 80 + 1);
        }
    }

    /** append: "Returns the new length of the text". */
    private static void lengthsThatAppendAnswers(Due due) {
        RenamingGrid x = new RenamingGrid();
        for (int length = 1; length <= 80; length++) {
            due.is("append(';') as character " + length, x.append(';'), length);
        }
    }

    /** "CAPACITY_EXCEEDED if the text already has 80 characters"; "a text of at most 80 characters". */
    private static void aTextOf80Characters(Due due) {
        RenamingGrid x = new RenamingGrid();
        Due.type(x, "0;".repeat(39) + "0");
        due.is("append(';') to 79 characters", x.append(';'), 80);
        due.is("append('x') to 80 characters", x.append('x'), -3);
        due.is("append(' ') to 80 characters", x.append(' '), -3);
        due.is("append(0) to 80 characters", x.append(0), -3);
        due.is("append(255) to 80 characters", x.append(255), -3);
        due.is("runText() of 80 characters", x.runText(), 4);
        // Only the last two of the 80 characters let process 1 make a step.
        Due.type(x, "0;".repeat(39) + "1;");
        due.is("runText() with the step at the end", x.runText(), 1);
        due.is("stepsOf(1)", x.stepsOf(1), 1);
    }

    /** "Makes the text empty." */
    private static void roomAgainAfterClearText(Due due) {
        RenamingGrid x = new RenamingGrid();
        Due.type(x, EIGHTY_SPACES);
        due.is("append('0') to 80 characters", x.append('0'), -3);
        due.is("clearText()", x.clearText(), 80);
        due.is("runText() of what is left", x.runText(), -10);
        due.is("append('0')", x.append('0'), 1);
        due.is("append(';')", x.append(';'), 2);
        due.is("runText()", x.runText(), 1);
    }

    /** "then the text becomes empty". */
    private static void roomAgainAfterRunText(Due due) {
        RenamingGrid x = new RenamingGrid();
        Due.type(x, " ".repeat(78) + "1;");
        due.is("append('0') to 80 characters", x.append('0'), -3);
        due.is("runText()", x.runText(), 1);
        due.is("append('0')", x.append('0'), 1);
        due.is("clearText()", x.clearText(), 1);
        due.is("runText() of the empty text", x.runText(), -10);
        Due.type(x, "1;");
        due.is("runText()", x.runText(), 1);
        due.is("clearText() after runText()", x.clearText(), 0);
    }

    /** "Returns the previous length of the text." */
    private static void lengthsThatClearTextAnswers(Due due) {
        RenamingGrid x = new RenamingGrid();
        due.is("clearText() of the empty text", x.clearText(), 0);
        x.append('0');
        due.is("clearText() of one character", x.clearText(), 1);
        due.is("clearText() again", x.clearText(), 0);
        Due.type(x, EIGHTY_SPACES.substring(1));
        due.is("clearText() of 79 characters", x.clearText(), 79);
        Due.type(x, EIGHTY_SPACES);
        due.is("clearText() of 80 characters", x.clearText(), 80);
        due.is("clearText() again", x.clearText(), 0);
    }

    /** "It consists of one or more items"; "the length of the text if the text .. has no token". */
    private static void noItem(Due due) {
        isRefused(due, 2, "", 0);
        isRefused(due, 2, " ", 1);
        isRefused(due, 2, "  ", 2);
        isRefused(due, 2, EIGHTY_SPACES, 80);
        isExecuted(due, 2, "0;", 1);
        isExecuted(due, 2, "0;1;", 2);
    }

    /** "each of them followed by ';'". */
    private static void everyItemEndsWithASemicolon(Due due) {
        isRefused(due, 2, ";", 0);
        isRefused(due, 2, "0;;", 2);
        isRefused(due, 2, "0; ;", 3);
        isRefused(due, 2, ";0;", 0);
        isRefused(due, 2, "0", 1);
        isRefused(due, 2, "0*2", 3);
        isRefused(due, 2, "0 1;", 2);
        isRefused(due, 2, "0*2 1;", 4);
        isRefused(due, 2, "0;1", 3);
        isExecuted(due, 2, "0*2;", 2);
    }

    /** "the number of a process": from 0 to the number of processes minus 1. */
    private static void numbersOfProcesses(Due due) {
        for (int processes = 1; processes <= 3; processes++) {
            isExecuted(due, processes, "0;", 1);
            isExecuted(due, processes, (processes - 1) + ";", 1);
            isRefused(due, processes, processes + ";", 0);
            isRefused(due, processes, "0;" + processes + ";", 2);
            isRefused(due, processes, "9;", 0);
            isRefused(due, processes, "10;", 0);
            isRefused(due, processes, "99;", 0);
            isRefused(due, processes, "-1;", 0);
        }
        RenamingGrid x = Due.grid(3, 3, 0);
        Due.type(x, "2;");
        due.is("append('2')", x.append('2'), 3);
        x.configure(3, 2, 0);
        due.is("runText(), when there are 2 processes", x.runText(), -10);
        x.undo();
        due.is("append(';')", x.append(';'), 4);
        due.is("runText(), when there are 3 again", x.runText(), 2);
        due.is("stepsOf(2)", x.stepsOf(2), 2);
    }

    /** "optionally '*' and a count from 1 to 30". */
    private static void countsFrom1To30(Due due) {
        isExecuted(due, 2, "0*1;", 1);
        isRefused(due, 2, "0*0;", 2);
        isExecuted(due, 2, "0*30;", 4);
        isRefused(due, 2, "0*31;", 2);
        isExecuted(due, 2, "0*29;", 4);
        isRefused(due, 2, "0*32;", 2);
        isRefused(due, 2, "0*40;", 2);
        isRefused(due, 2, "0*99;", 2);
        isRefused(due, 2, "0*;", 2);
        isRefused(due, 2, "0*-1;", 2);
        isRefused(due, 2, "0*+1;", 2);
        isRefused(due, 2, "*1;", 0);
        isRefused(due, 2, "0**1;", 2);
        isRefused(due, 2, "0*1*1;", 3);
    }

    /** "Without a count, the count is 1." */
    private static void withoutACount(Due due) {
        RenamingGrid x = new RenamingGrid();
        Due.type(x, "1*3;1;0;");
        due.is("runText()", x.runText(), 5);
        due.is("stepsOf(1)", x.stepsOf(1), 4);
        due.is("stepsOf(0)", x.stepsOf(0), 1);
    }

    /** "a number if it is a single digit, or has two digits and does not begin with 0". */
    private static void numbersOfOneAndTwoDigits(Due due) {
        isExecuted(due, 2, "0*9;", 4);
        isExecuted(due, 2, "0*10;", 4);
        isExecuted(due, 2, "0*11;", 4);
        isRefused(due, 2, "0*00;", 2);
        isRefused(due, 2, "0*01;", 2);
        isRefused(due, 2, "0*09;", 2);
        isRefused(due, 2, "0*100;", 2);
        isRefused(due, 2, "0*001;", 2);
        isRefused(due, 2, "0*010;", 2);
        isRefused(due, 2, "0*0000000001;", 2);
        isRefused(due, 2, "0*4294967297;", 2);
        isRefused(due, 2, "00;", 0);
        isRefused(due, 2, "01;", 0);
        isRefused(due, 2, "001;", 0);
        isRefused(due, 2, "100;", 0);
        isRefused(due, 2, "256;", 0);
    }

    /** "so is a maximal run of digits": it is one token, wherever it ends. */
    private static void maximalRunsOfDigits(Due due) {
        isRefused(due, 2, "0*123;", 2);
        isRefused(due, 2, "0*123", 2);
        isRefused(due, 2, "0*300;", 2);
        isRefused(due, 2, "12;", 0);
        isRefused(due, 2, "11;", 0);
        isRefused(due, 2, "0;11*2;", 2);
        isRefused(due, 2, "1".repeat(80), 0);
        isRefused(due, 2, "0;" + "1".repeat(78), 2);
        isRefused(due, 2, "0;".repeat(39) + "11", 78);
        isRefused(due, 2, "0;".repeat(38) + "0*30", 80);
        isRefused(due, 2, "0;".repeat(38) + "0*31", 78);
        isRefused(due, 2, "0;".repeat(38) + " 0*3", 80);
    }

    /** "any other character except a space is a token that is never allowed". */
    private static void everyCharacterAlone(Due due) {
        for (int character = 0; character <= 255; character++) {
            RenamingGrid x = new RenamingGrid();
            x.append(character);
            Due.type(x, "0;");
            int want = -10;
            if (character == ' ') {
                want = 1;
            }
            due.is("runText() of character " + character + " before an item", x.runText(), want);
            x = new RenamingGrid();
            Due.type(x, "0;");
            x.append(character);
            want = -12;
            if (character == ' ') {
                want = 1;
            } else if (character == '0' || character == '1') {
                want = -13;
            }
            due.is("runText() of character " + character + " behind an item", x.runText(), want);
            x = new RenamingGrid();
            Due.type(x, "0*1");
            x.append(character);
            x.append(';');
            want = -13;
            if (character == ';') {
                want = -14;
            } else if (character == ' ') {
                want = 1;
            } else if (character >= '0' && character <= '9') {
                want = 4;
            }
            due.is("runText() of character " + character + " behind a count", x.runText(), want);
        }
    }

    /** "Spaces (code 32) may stand before, between and after tokens." */
    private static void spacesAroundTokens(Due due) {
        isExecuted(due, 2, " 0;", 1);
        isExecuted(due, 2, "0 ;", 1);
        isExecuted(due, 2, "0; ", 1);
        isExecuted(due, 2, "0 *2;", 2);
        isExecuted(due, 2, "0* 2;", 2);
        isExecuted(due, 2, "0*2 ;", 2);
        isExecuted(due, 2, "   0   *   30   ;   1   ;   ", 5);
        isExecuted(due, 2, " ".repeat(78) + "0;", 1);
        isExecuted(due, 2, "0;" + " ".repeat(78), 1);
        isExecuted(due, 2, "0" + " ".repeat(78) + ";", 1);
        isRefused(due, 2, "0\t;", 1);
        isRefused(due, 2, "\n0;", 0);
        isRefused(due, 2, "0;\u00a0", 2);
    }

    /** A space ends a number, and what follows it is another token. */
    private static void spacesInsideNumbers(Due due) {
        isRefused(due, 2, "0*1 0;", 4);
        isRefused(due, 2, "0*3 0;", 4);
        isRefused(due, 2, "0*0 1;", 2);
        isRefused(due, 2, "0 0;", 2);
        isRefused(due, 2, "1 0;", 2);
    }

    /** "the offset (from 0) of the first character of the first token that is not allowed where it stands". */
    private static void theFirstTokenThatIsNotAllowed(Due due) {
        isRefused(due, 2, "x", 0);
        isRefused(due, 2, " x", 1);
        isRefused(due, 2, "x;x", 0);
        isRefused(due, 2, "0*99;99;", 2);
        isRefused(due, 2, "0;  99;", 4);
        isRefused(due, 2, "0*  99;", 4);
        isRefused(due, 2, "0*  100;", 4);
        isRefused(due, 2, "0;".repeat(39) + "1x", 79);
        isRefused(due, 2, "0;".repeat(39) + "x;", 78);
        isRefused(due, 2, " ".repeat(79) + "x", 79);
        isRefused(due, 2, " ".repeat(79) + ";", 79);
        isRefused(due, 2, "x" + " ".repeat(79), 0);
        isRefused(due, 2, "0;1;2;3;", 4);
        isRefused(due, 2, "0*2;*", 4);
    }

    /** "or the length of the text if the text ends inside an item". */
    private static void endInsideAnItem(Due due) {
        isRefused(due, 2, "0", 1);
        isRefused(due, 2, "0 ", 2);
        isRefused(due, 2, "0*", 2);
        isRefused(due, 2, "0*  ", 4);
        isRefused(due, 2, "0*1", 3);
        isRefused(due, 2, "0*30   ", 7);
        isRefused(due, 2, "0;1", 3);
        isRefused(due, 2, "0;1*30", 6);
        isRefused(due, 2, "0;".repeat(39) + " 1", 80);
        isRefused(due, 2, "0;".repeat(39) + "1*", 80);
        isRefused(due, 2, "0" + " ".repeat(79), 80);
    }

    /** "to let the process make steps until it has made as many as the count says". */
    private static void untilItHasMadeAsManySteps(Due due) {
        for (int count = 1; count <= 30; count++) {
            RenamingGrid x = Due.grid(3, 3, 0);
            // Past the doors that 0 and 1 close, process 2 makes 8 steps: no process can make more alone.
            Due.steps(x, 0, 0, 0, 1, 1, 1, 1, 1);
            due.is("soloSteps(2)", x.soloSteps(2), 8);
            Due.type(x, "2*" + count + ";");
            due.is("runText() with count " + count, x.runText(), Math.min(count, 8));
            due.is("stepsOf(2)", x.stepsOf(2), Math.min(count, 8));
            due.is("status(2)", x.status(2), count >= 8 ? 1 : 0);
            due.is("stepsOf(1)", x.stepsOf(1), 5);
        }
    }

    /** "or is not running": named, out or crashed, before the item or in it. */
    private static void untilItIsNotRunning(Due due) {
        RenamingGrid x = Due.grid(2, 3, 0);
        Due.type(x, "0*30;0*30;0;");
        due.is("runText(): 0 becomes named", x.runText(), 4);
        Due.type(x, "1*5;2*30;2;");
        due.is("runText(): 2 becomes out", x.runText(), 9);
        due.is("status(2)", x.status(2), 2);
        x.crash(1);
        Due.type(x, "0;1;2;");
        due.is("runText(): none is running", x.runText(), 0);
        due.is("stepsOf(0)", x.stepsOf(0), 4);
        due.is("stepsOf(1)", x.stepsOf(1), 5);
        due.is("stepsOf(2)", x.stepsOf(2), 4);
    }

    /** "executes its items in order". */
    private static void itemsInOrder(Due due) {
        RenamingGrid x = new RenamingGrid();
        Due.type(x, "0;1;");
        due.is("runText()", x.runText(), 2);
        due.is("owner(0): 1 was the last", x.owner(0), 1);
        x.configure(3, 2, 0);
        Due.type(x, "1;0;");
        due.is("runText()", x.runText(), 2);
        due.is("owner(0): 0 was the last", x.owner(0), 0);
    }

    /** "Returns the number of steps that were made". */
    private static void numberOfSteps(Due due) {
        RenamingGrid x = new RenamingGrid();
        Due.type(x, "0*2;1*3;0*30;");
        due.is("runText()", x.runText(), 11);
        due.is("stepsOf(0) and stepsOf(1)", x.stepsOf(0) + x.stepsOf(1), 11);
    }

    /** "-10 minus the error position if the text is not a schedule (nothing is executed, and the text is kept then)". */
    private static void textsThatAreNoSchedules(Due due) {
        RenamingGrid x = new RenamingGrid();
        Due.type(x, "0*3;1*3;0");
        String before = Look.atState(x);
        due.is("runText()", x.runText(), -19);
        due.holds("nothing was executed", before.equals(Look.atState(x)));
        due.is("undo(): nothing was saved", x.undo(), -2);
        due.is("runText() again", x.runText(), -19);
        due.is("append(';') to the text that was kept", x.append(';'), 10);
        due.is("runText() now", x.runText(), 7);
        x = new RenamingGrid();
        Due.type(x, "0;".repeat(39) + "0x");
        due.is("runText() of 80 characters", x.runText(), -89);
        due.is("append(';') to the text that was kept", x.append(';'), -3);
        due.is("clearText()", x.clearText(), 80);
        due.is("stepsOf(0)", x.stepsOf(0), 0);
    }
}
