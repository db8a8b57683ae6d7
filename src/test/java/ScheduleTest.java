/** Promises 7 to 9: append, clearText, runText. */
public final class ScheduleTest {
    /** Texts that are no schedule for two processes, each with its error position. */
    private static final Object[][] REFUSED = {
        {"", 0}, {" ", 1}, {"     ", 5}, {"0", 1}, {"0 ", 2}, {" 0", 2}, {"0*", 2}, {"0* ", 3}, {"0*3", 3},
        {"0*3 ", 4}, {"0;1", 3}, {"0;1*", 4}, {"0;1*3", 5}, {"0; 1 ", 5}, {";", 0}, {" ;", 1}, {"0;;", 2},
        {"0; ;", 3}, {"*3;", 0}, {"0**3;", 2}, {"0*;", 2}, {"0*3*3;", 3}, {"0*3 4;", 4}, {"0 1;", 2},
        {"0 3;", 2}, {"2;", 0}, {"9;", 0}, {"10;", 0}, {"00;", 0}, {"01;", 0}, {"000;", 0}, {"0;2;", 2},
        {"0;00;", 2}, {"0; 10;", 3}, {"123;", 0}, {"0*0;", 2}, {"0*31;", 2}, {"0*99;", 2}, {"0*00;", 2},
        {"0*01;", 2}, {"0*05;", 2}, {"0*100;", 2}, {"0*301;", 2}, {"0*0 ;", 2}, {"0 * 31 ;", 4}, {"x", 0},
        {"0x;", 1}, {"0*x;", 2}, {"0*3x;", 3}, {"0;x", 2}, {"x0;", 0}, {"-1;", 0}, {"+1;", 0}, {"0*-3;", 2},
        {"0,1;", 1}, {"0:", 1}, {"/;", 0}, {":;", 0}, {"0\t;", 1}, {"0\n;", 1}, {"\0000;", 0}, {"0;\u00a0", 2},
        {"0*3\u00b2;", 3}, {"0*1 0;", 4}, {"0*3 0;", 4}, {"1 0;", 2}, {"0;1;0*3;1*30;0*3;0 ;x1;", 20},
    };

    public static void main(String[] args) {
        Due due = new Due("ScheduleTest");
        appending(due);
        clearing(due);
        refusedTexts(due);
        rangeOfProcessNumbers(due);
        everyOtherCharacterIsRefused(due);
        executing(due);
        counts(due);
        processesThatDoNotRun(due);
        fullTexts(due);
        due.end();
    }

    private static void appending(Due due) {
        RenamingGrid x = new RenamingGrid();
        for (int wrong : new int[] {-1, 256, 304, Integer.MIN_VALUE, Integer.MAX_VALUE}) {
            due.is("append(" + wrong + ")", x.append(wrong), -1);
        }
        due.is("append(0)", x.append(0), 1);
        due.is("append(255)", x.append(255), 2);
        for (int length = 3; length <= 80; length++) {
            due.is("append(32)", x.append(32), length);
        }
        due.is("append(32) to 80 characters", x.append(32), -3);
        due.is("append(-1) to 80 characters", x.append(-1), -1);
        due.is("append(256) to 80 characters", x.append(256), -1);
        due.is("clearText()", x.clearText(), 80);
        due.is("append(48)", x.append(48), 1);
    }

    private static void clearing(Due due) {
        RenamingGrid x = new RenamingGrid();
        due.is("clearText()", x.clearText(), 0);
        Due.type(x, "0*3;");
        due.is("explore()", x.explore(), 165);
        due.is("append(59)", x.append(59), 5);
        due.is("clearText()", x.clearText(), 5);
        due.is("clearText()", x.clearText(), 0);
        due.is("the text is no part of the state", x.finalCount(), 8);
        due.is("runText()", x.runText(), -10);
        due.is("undo()", x.undo(), -2);
        Due.type(x, "1;");
        due.is("runText()", x.runText(), 1);
        due.is("stepsOf(0)", x.stepsOf(0), 0);
    }

    private static void refusedTexts(Due due) {
        RenamingGrid x = new RenamingGrid();
        int calls = 0;
        for (Object[] refused : REFUSED) {
            String text = (String) refused[0];
            if (calls > 400) {
                x = new RenamingGrid();
                calls = 0;
            }
            Due.type(x, text);
            String call = "runText() of \"" + text + "\"";
            due.is(call, x.runText(), -10 - (Integer) refused[1]);
            due.is(call + " again", x.runText(), -10 - (Integer) refused[1]);
            due.is("clearText() after " + call, x.clearText(), text.length());
            due.is("stepsOf(0)", x.stepsOf(0), 0);
            due.is("stepsOf(1)", x.stepsOf(1), 0);
            due.is("undo()", x.undo(), -2);
            calls += text.length() + 6;
        }
        x = new RenamingGrid();
        Due.type(x, "0;1");
        due.is("explore()", x.explore(), 165);
        due.is("runText()", x.runText(), -13);
        due.is("what was explored is still told", x.finalCount(), 8);
        due.is("append(59)", x.append(59), 4);
        due.is("runText() of the text that was kept", x.runText(), 2);
        due.is("now it isn't", x.finalCount(), -2);
    }

    private static void rangeOfProcessNumbers(Due due) {
        for (int processes = 1; processes <= 3; processes++) {
            RenamingGrid x = Due.grid(3, processes, 0);
            for (int p = 0; p <= 9; p++) {
                Due.type(x, " " + p + ";");
                due.is("runText() of " + p + " of " + processes, x.runText(), p < processes ? 1 : -11);
                x.clearText();
            }
        }
    }

    private static void everyOtherCharacterIsRefused(Due due) {
        RenamingGrid x = new RenamingGrid();
        for (int character = 0; character <= 255; character++) {
            if (character % 50 == 0) {
                x = new RenamingGrid();
            }
            boolean known = character == '*' || character == ';' || character == ' '
                    || character >= '0' && character <= '9';
            if (known) {
                continue;
            }
            Due.type(x, "0 ");
            x.append(character);
            x.append(';');
            due.is("runText() with character " + character, x.runText(), -12);
            due.is("clearText()", x.clearText(), 4);
        }
    }

    private static void executing(Due due) {
        RenamingGrid x = new RenamingGrid();
        Due.type(x, "  0 ;1; 0 * 2;\u0020 1*1 ; ");
        due.is("runText()", x.runText(), 5);
        due.is("clearText()", x.clearText(), 0);
        due.is("stepsOf(0)", x.stepsOf(0), 3);
        due.is("stepsOf(1)", x.stepsOf(1), 2);
        due.is("the last step of 1 came after the door was closed", x.splitterOf(1), 1);
        due.is("owner(0)", x.owner(0), 1);
        due.is("left(0, 0)", x.left(0, 0), 1);
        due.is("entered(1)", x.entered(1), 1);
        due.is("undo() takes all of it back", x.undo(), 0);
        due.is("stepsOf(0)", x.stepsOf(0), 0);
        due.is("splitterOf(1)", x.splitterOf(1), 0);
        due.is("the text stays empty", x.clearText(), 0);
        Due.type(x, "1;0;1*3;0*2;");
        due.is("runText(): other orders, other ways", x.runText(), 7);
        due.is("splitterOf(1)", x.splitterOf(1), 2);
        due.is("splitterOf(0)", x.splitterOf(0), 1);
        due.is("stepsOf(0)", x.stepsOf(0), 3);
    }

    private static void counts(Due due) {
        for (int count = 1; count <= 30; count++) {
            RenamingGrid x = Due.grid(4, 3, 0);
            // 0 goes right twice, past the doors that 1 and 2 close, and is named after 8 steps.
            Due.steps(x, 1, 1, 1, 2, 2, 2, 2, 2);
            Due.type(x, "0*" + count + ";");
            due.is("runText() with count " + count, x.runText(), Math.min(count, 8));
            due.is("stepsOf(0)", x.stepsOf(0), Math.min(count, 8));
        }
    }

    private static void processesThatDoNotRun(Due due) {
        RenamingGrid x = new RenamingGrid();
        x.crash(0);
        due.is("explore()", x.explore(), 5);
        Due.type(x, "0*30;0;");
        due.is("runText() without a step", x.runText(), 0);
        due.is("it could have changed the state", x.finalCount(), -2);
        due.is("stepsOf(0)", x.stepsOf(0), 0);
        due.is("clearText()", x.clearText(), 0);
        due.is("undo(): it saved a state, too", x.undo(), 1);
        due.is("status(0)", x.status(0), 3);
        Due.type(x, "1*30;1*30;0;");
        due.is("runText()", x.runText(), 4);
        due.is("status(1)", x.status(1), 1);
    }

    private static void fullTexts(Due due) {
        RenamingGrid x = new RenamingGrid();
        Due.type(x, "0;".repeat(39) + "1;");
        due.is("append(59)", x.append(59), -3);
        due.is("runText() of 40 items", x.runText(), 5);
        due.is("stepsOf(1)", x.stepsOf(1), 1);
        x.configure(3, 2, 0);
        Due.type(x, "0;".repeat(39) + " 1");
        due.is("runText() of a full text that lacks its end", x.runText(), -90);
        due.is("clearText()", x.clearText(), 80);
        Due.type(x, "0;".repeat(39) + "1x");
        due.is("runText() with an error in the last place", x.runText(), -89);
        x.clearText();
        Due.type(x, " ".repeat(80));
        due.is("runText() of 80 spaces", x.runText(), -90);
        x = new RenamingGrid();
        Due.type(x, "1".repeat(80));
        due.is("runText() of 80 digits", x.runText(), -10);
    }
}
