import java.util.Random;
import java.util.regex.Matcher;
import java.util.regex.Pattern;

/** Promises 55 to 58: the input buffer, programs, and what is stored of those that fail. */
public final class ProgramTest {
    private static final String STATE = IllegalStateException.class.getName();
    private static final String ARGUMENT = IllegalArgumentException.class.getName();
    private static final String NONE = java.util.NoSuchElementException.class.getName();

    private static final String NUMBER = "[0-9]{1,3}";
    private static final String COMMAND = ("(row N|phantoms [0-9] [0-9]|dismiss [0-9] [0-9]|echo [0-9] N"
            + "|move N [0-9]|remove N|heir N N|disown N|lock [0-9]|unlock [0-9]|box [a-h] [0-9]"
            + "|spread [0-9])").replace("N", NUMBER);
    private static final Pattern PROGRAM = Pattern.compile(COMMAND + "(;" + COMMAND + ")*");

    private static final String[] EXAMPLES = {"row 12", "phantoms 0 6", "dismiss 0 1", "echo 0 999",
        "move 0 1", "remove 17", "heir 0 1", "disown 100", "lock 0", "unlock 0", "box a 0", "spread 0"};

    public static void main(String[] args) {
        buffer();
        everyCommand();
        allOrNone();
        storedNumbers();
        errorPositions();
        everySingleMistake();
        mixedPrograms();
        manyCommands();
        Check.finish();
    }

    private static void buffer() {
        EchoCensus x = new EchoCensus();
        for (char wrong : new char[] {0, 31, 127, 128, '\n', 0xFFFF}) {
            Check.fails("append", IllegalArgumentException.class, () -> x.append(wrong));
        }
        for (int length = 1; length <= 60; length++) {
            char character = length == 1 ? '~' : ' ';
            Check.equal("append number " + length, length, () -> x.append(character));
        }
        Check.fails("append to a full buffer", IllegalStateException.class, () -> x.append('a'));
        Check.fails("a bad character to a full buffer", IllegalArgumentException.class,
                () -> x.append((char) 127));
        Check.equal("run of nonsense", ARGUMENT, () -> Check.answer(x::run));
        Check.equal("the buffer is empty afterwards", 1, () -> x.append('a'));
    }

    private static void everyCommand() {
        EchoCensus x = new EchoCensus();
        Check.equal("rows", "3", () -> Check.run(x, "row 2;row 012;row 5"));
        Check.equal("rowCount", 3, x::rowCount);
        Check.equal("capacity(1)", 12, () -> x.capacity(1));
        Check.equal("phantoms", "2", () -> Check.run(x, "phantoms 0 5;dismiss 0 2"));
        Check.equal("phantoms(0)", 3, () -> x.phantoms(0));
        Check.equal("echoes", "3", () -> Check.run(x, "echo 0 10;echo 0 020;echo 0 999"));
        Check.equal("loudness(1)", 20, () -> x.loudness(1));
        Check.equal("move", "1", () -> Check.run(x, "move 000 1"));
        Check.equal("rowOf(0)", 1, () -> x.rowOf(0));
        Check.equal("heirs", "3", () -> Check.run(x, "heir 0 1;heir 1 2;disown 0"));
        Check.equal("hasHeir(0)", false, () -> x.hasHeir(0));
        Check.equal("heir(1)", 2, () -> x.heir(1));
        Check.equal("remove", "1", () -> Check.run(x, "remove 1"));
        Check.equal("lostLoudness", 20, x::lostLoudness);
        Check.equal("locks", "3", () -> Check.run(x, "lock 2;lock 1;unlock 2"));
        Check.equal("isLocked(1)", true, () -> x.isLocked(1));
        Check.equal("isLocked(2)", false, () -> x.isLocked(2));
        Check.equal("boxes", "2", () -> Check.run(x, "box a 2;box h 1"));
        Check.equal("namedRow('a')", 2, () -> x.namedRow('a'));
        Check.equal("namedRow('h')", 1, () -> x.namedRow('h'));
        Check.equal("spread", "3", () -> Check.run(x, "echo 0 5;echo 0 6;spread 0"));
        Check.equal("moveCount", 2, x::moveCount);
        Check.equal("rowOf(2)", 2, () -> x.rowOf(2));
    }

    private static void allOrNone() {
        EchoCensus x = new EchoCensus();
        x.addRow(3);
        x.add(0, 7);
        x.save();
        String[] failing = {"echo 0 1;row 13", "row 1;remove 1", "row 1;lock 9", "echo 0 1;echo 0 0",
            "lock 0;echo 0 5", "row 4;move 0 0", "row 4;box h 2"};
        for (String text : failing) {
            Check.equal(text, STATE, () -> Check.run(x, text));
            Check.equal("failedCommand", 1, x::failedCommand);
            Check.equal("rowCount", 1, x::rowCount);
            Check.equal("echoCount", 1, x::echoCount);
            Check.equal("addedLoudness", 7, x::addedLoudness);
            Check.equal("isLocked(0)", false, () -> x.isLocked(0));
            Check.equal("undoableCount", 2, x::undoableCount);
            Check.equal("the buffer is empty", 1, () -> x.append('?'));
            Check.equal("a malformed program", ARGUMENT, () -> Check.answer(x::run));
        }
        Check.equal("a malformed program that would fail", ARGUMENT, () -> Check.run(x, "lock 9;"));
        Check.equal("malformed behind what would be executed", ARGUMENT, () -> Check.run(x, "lock 0;x"));
        Check.equal("isLocked(0)", false, () -> x.isLocked(0));
        Check.equal("the next free id is as before", "2", () -> Check.run(x, "echo 0 1;heir 1 0"));
        Check.equal("a run is one change", 3, x::undoableCount);
        Check.equal("undo of the run", 2, x::undo);
        Check.equal("echoCount", 1, x::echoCount);
    }

    private static void storedNumbers() {
        EchoCensus x = new EchoCensus();
        Check.equal("errorPosition at first", NONE, () -> Check.answer(x::errorPosition));
        Check.equal("failedCommand at first", NONE, () -> Check.answer(x::failedCommand));
        Check.run(x, "row 1;row 0");
        Check.equal("errorPosition after a failure", NONE, () -> Check.answer(x::errorPosition));
        Check.equal("failedCommand", 1, x::failedCommand);
        Check.run(x, "row x");
        Check.equal("errorPosition", 4, x::errorPosition);
        Check.equal("failedCommand stays", 1, x::failedCommand);
        Check.run(x, "row 1");
        Check.equal("errorPosition stays", 4, x::errorPosition);
        Check.equal("failedCommand stays", 1, x::failedCommand);
        Check.run(x, "lock 9");
        Check.equal("a later failure", 0, x::failedCommand);
        Check.run(x, "");
        Check.equal("a later error", 0, x::errorPosition);
    }

    /** Where the grammar, as a regular expression, says that the text goes wrong, or -1. */
    private static int dueErrorPosition(String text) {
        Matcher whole = PROGRAM.matcher(text);
        if (whole.matches()) {
            return -1;
        }
        for (int length = 1; length <= text.length(); length++) {
            Matcher start = PROGRAM.matcher(text.substring(0, length));
            if (!start.matches() && !start.hitEnd()) {
                return length - 1;
            }
        }
        return text.length();
    }

    private static void checkErrorPosition(String text) {
        EchoCensus x = new EchoCensus();
        int due = dueErrorPosition(text);
        String answer = Check.run(x, text);
        if (due < 0) {
            Check.equal("well-formed: " + text, false, () -> answer.equals(ARGUMENT));
            Check.equal("no error in: " + text, NONE, () -> Check.answer(x::errorPosition));
        } else {
            Check.equal("malformed: " + text, ARGUMENT, () -> answer);
            Check.equal("error position of: " + text, due, x::errorPosition);
        }
    }

    private static void errorPositions() {
        Object[][] cases = {{"", 0}, {"r", 1}, {"rox 1", 2}, {"rem", 3}, {"rew", 2}, {"row", 3},
            {"row 1234", 7}, {"row 1;", 6}, {"row 1; row 1", 6}, {"row 1 ", 5}, {" row 1", 0},
            {"ROW 1", 0}, {"disk", 3}, {"diso 1", 4}, {"dismiss 1", 9}, {"phantoms 10 1", 10},
            {"lock 12", 6}, {"box i 0", 4}, {"box A 0", 4}, {"box a10", 5}, {"echo 1 2345", 10},
            {"heir 1 ", 7}, {"heir  1", 5}, {"move 1;", 6}, {"row -1", 4}, {"row  1", 4}, {"x", 0},
            {"lock_", 4}, {"row 1;;", 6}, {"unlock 1x", 8}, {"spread", 6}, {"row+1", 3}};
        for (Object[] example : cases) {
            String text = example[0].toString();
            EchoCensus x = new EchoCensus();
            Check.equal("malformed: " + text, ARGUMENT, () -> Check.run(x, text));
            Check.equal("error position of: " + text, example[1], x::errorPosition);
            checkErrorPosition(text);
        }
    }

    /** Every beginning of every command, and every beginning with every one character behind it. */
    private static void everySingleMistake() {
        for (String command : EXAMPLES) {
            for (int length = 0; length <= command.length(); length++) {
                String start = command.substring(0, length);
                checkErrorPosition(start);
                for (char next = ' '; next <= '~'; next++) {
                    checkErrorPosition(start + next);
                    checkErrorPosition("lock 0;" + start + next + " 1");
                }
            }
        }
    }

    private static void mixedPrograms() {
        Random random = new Random(7);
        String letters = " ;0123456789abcdefghrowlckmvxsp";
        for (int round = 0; round < 20000; round++) {
            StringBuilder text = new StringBuilder();
            int commands = 1 + random.nextInt(5);
            for (int index = 0; index < commands; index++) {
                text.append(index == 0 ? "" : ";").append(EXAMPLES[random.nextInt(EXAMPLES.length)]);
            }
            for (int mistakes = random.nextInt(3); mistakes > 0; mistakes--) {
                int at = random.nextInt(text.length());
                char letter = letters.charAt(random.nextInt(letters.length()));
                switch (random.nextInt(3)) {
                    case 0 -> text.setCharAt(at, letter);
                    case 1 -> text.insert(at, letter);
                    default -> text.deleteCharAt(at);
                }
            }
            text.setLength(Math.min(text.length(), 60));
            checkErrorPosition(text.toString());
        }
    }

    private static void manyCommands() {
        EchoCensus x = new EchoCensus();
        Check.equal("eight rows", "8",
                () -> Check.run(x, "row 1;row 2;row 3;row 4;row 5;row 6;row 7;row 8"));
        Check.equal("rowCount", 8, x::rowCount);
        EchoCensus y = new EchoCensus();
        String tenRows = "row 1;".repeat(9) + "row 1";
        Check.equal("ten rows", STATE, () -> Check.run(y, tenRows));
        Check.equal("the ninth fails", 8, y::failedCommand);
        Check.equal("rowCount", 0, y::rowCount);
        Check.equal("ten rows and a separator", ARGUMENT, () -> Check.run(y, tenRows + ";"));
        Check.equal("errorPosition", 60, y::errorPosition);
    }
}
