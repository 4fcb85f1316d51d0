import java.util.List;

/** Tests of the sentences of "Commands" and of the promises 55 to 58. */
final class CommandSentences extends Sentences {
    private static final String[] KEYWORDS = {"row", "phantoms", "dismiss", "echo", "move", "remove", "heir",
        "disown", "lock", "unlock", "box", "spread"};

    private CommandSentences() {
    }

    static void test() {
        grammarOfPrograms();
        grammarOfCommands();
        grammarOfParts();
        methods();
        positions();
        keywords();
        buffer();
        running();
        failing();
        stored();
    }

    private static void grammarOfPrograms() {
        says("Commands", "program = command { \";\" command }", () -> {
            wellFormed("row 1");
            wellFormed("row 1;row 2");
            wellFormed("row 1;".repeat(9) + "row 1");
            wellFormed("box a 0;phantoms 0 1;dismiss 0 1;echo 0 999;remove 0;row 012");
            malformed(0, "");
            malformed(0, ";");
            malformed(0, ";row 1");
            malformed(6, "row 1;");
            malformed(6, "row 1;;row 1");
            malformed(6, "row 1; row 1");
            malformed(5, "row 1 ;row 1");
            malformed(5, "row 1,row 1");
            malformed(5, "row 1row 1");
            malformed(60, "row 1;".repeat(10));
        });
    }

    private static void grammarOfCommands() {
        says("Commands", "command = \"row \" number", () -> {
            arguments("row ", "7", "");
            arguments("phantoms ", "3", " 4");
            arguments("phantoms 3 ", "4", "");
            arguments("dismiss ", "3", " 4");
            arguments("dismiss 3 ", "4", "");
            arguments("echo ", "3", " 456");
            arguments("echo 3 ", "456", "");
            arguments("move ", "345", " 6");
            arguments("move 345 ", "6", "");
            arguments("remove ", "345", "");
            arguments("heir ", "345", " 678");
            arguments("heir 345 ", "678", "");
            arguments("disown ", "345", "");
            arguments("lock ", "3", "");
            arguments("unlock ", "3", "");
            arguments("box ", "c", " 4");
            arguments("box c ", "4", "");
            arguments("spread ", "3", "");
            wellFormed("row 789");
            malformed(7, "row 7890");
        });
    }

    /** Tries the argument between the two ends, one more digit, a missing digit, and others in its place. */
    private static void arguments(String before, String argument, String behind) {
        int at = before.length();
        int end = at + argument.length();
        wellFormed(before + argument + behind);
        malformed(at, before);
        malformed(at, before + behind);
        malformed(at, before + ";" + behind);
        malformed(at, before + "x" + behind);
        malformed(at, before + "-" + argument + behind);
        malformed(end, before + argument + "x" + behind);
        malformed(end + behind.length(), before + argument + behind + " ");
        malformed(end + behind.length(), before + argument + behind + " 1");
        if (!behind.isEmpty()) {
            malformed(end, before + argument);
            malformed(end, before + argument + ";row 1");
            malformed(end + 1, before + argument + " ");
            malformed(end + 1, before + argument + " " + behind);
        }
        if (argument.length() == 3 || !before.equals("row ")) {
            malformed(end, before + argument + "0" + behind);
        }
    }

    private static void grammarOfParts() {
        says("Commands", "name = \"a\" | \"b\"", () -> {
            EchoCensus x = rows(1);
            for (char name = 'a'; name <= 'h'; name++) {
                char box = name;
                is("1", () -> Check.run(x, "box " + box + " 0"));
                is(0, () -> x.namedRow(box));
            }
            for (char name = ' '; name <= '~'; name++) {
                if (name < 'a' || name > 'h') {
                    malformed(4, "box " + name + " 0");
                }
            }
            malformed(5, "box ab 0");
        });
        says("Commands", "number = digit [ digit ] [ digit ]", () -> {
            EchoCensus x = rows(12);
            for (String number : new String[] {"1", "9", "01", "10", "99", "001", "010", "100", "999", "909"}) {
                is("1", () -> Check.run(x, "echo 0 " + number));
                is(Integer.valueOf(number), () -> x.loudness(x.echoCount() - 1));
            }
            for (String number : new String[] {"0", "00", "000"}) {
                is(STATE.getName(), () -> Check.run(x, "echo 0 " + number));
            }
            malformed(7, "echo 0 ");
            malformed(10, "echo 0 1000");
            malformed(10, "echo 0 0001");
            malformed(7, "echo 0 +1");
            for (char digit = ' '; digit <= '~'; digit++) {
                if (digit < '0' || digit > '9') {
                    malformed(7, "echo 0 " + digit);
                    malformed(digit == ';' ? 9 : 8, "echo 0 1" + digit);
                }
            }
        });
    }

    private static void methods() {
        says("Commands", "The commands correspond to the methods addRow, addPhantoms", () -> {
            corresponds("row 11", x -> x.addRow(11));
            corresponds("phantoms 1 2", x -> x.addPhantoms(1, 2));
            corresponds("dismiss 0 1", x -> x.removePhantoms(0, 1));
            corresponds("echo 1 345", x -> x.add(1, 345));
            corresponds("move 2 1", x -> x.move(2, 1));
            corresponds("remove 0", x -> x.remove(0));
            corresponds("heir 3 2", x -> x.setHeir(3, 2));
            corresponds("disown 3", x -> x.clearHeir(3));
            corresponds("lock 1", x -> x.lock(1));
            corresponds("unlock 2", x -> x.unlock(2));
            corresponds("box g 2", x -> x.nameRow('g', 2));
            corresponds("spread 0", x -> x.spread(0));
        });
    }

    /** Checks that the command does what the call does. */
    private static void corresponds(String command, Call call) {
        EchoCensus called = emptied(theatre());
        call.on(called);
        EchoCensus commanded = emptied(theatre());
        is("1", () -> Check.run(commanded, command));
        Check.type(called, "row 1");
        Check.type(commanded, "row 1");
        String untouched = Picture.ofState(theatre());
        is(false, () -> Picture.ofState(called).equals(untouched));
        is(Picture.of(called), () -> Picture.of(commanded));
    }

    private static EchoCensus emptied(EchoCensus x) {
        x.append('x');
        fails(ARGUMENT, x::run);
        return x;
    }

    private static void positions() {
        says("Commands", "the length of the program if it is a proper prefix of a valid program", () -> {
            String program = "echo 0 1;heir 12 345;box h 7;dismiss 0 1;remove 999";
            List<Integer> ends = List.of(8, 18, 19, 20, 28, 40, 49, 50, 51);
            for (int length : upTo(program.length() + 1)) {
                String start = program.substring(0, length);
                if (ends.contains(length)) {
                    wellFormed(start);
                } else {
                    malformed(length, start);
                }
                malformed(length, start + "\"");
                malformed(length, start + "\"" + program.substring(length));
            }
            malformed(60, "unlock 0;".repeat(6) + "spread");
            malformed(59, "unlock 0;".repeat(6) + "sprea!");
            malformed(0, "!");
            malformed(0, " ".repeat(60));
            malformed(4, "row -");
            malformed(8, "lock 0;l0ck 1");
        });
    }

    private static void keywords() {
        says("Commands", "Keywords are matched letter by letter.", () -> {
            for (String keyword : KEYWORDS) {
                for (int length : upTo(keyword.length() + 1)) {
                    malformed(length, keyword.substring(0, length));
                    malformed(length, keyword.substring(0, length) + "~");
                    malformed(length + 7, "lock 0;" + keyword.substring(0, length) + ";");
                }
                malformed(0, keyword.toUpperCase());
                malformed(keyword.length(), keyword + "s 1");
                malformed(keyword.length(), keyword + "1");
                malformed(keyword.length() + 1, keyword + "  1");
            }
            malformed(2, "rew 1");
            malformed(2, "rom 1");
            malformed(3, "diswn 1");
            malformed(4, "dism");
            malformed(4, "disoss 1 1");
            malformed(4, "dismwn 1");
            malformed(2, "unspread 1");
            malformed(3, "locc 1");
        });
    }

    private static void buffer() {
        says("Commands", "The input buffer holds up to 60 characters.", () -> {
            EchoCensus x = rows(12);
            Check.type(x, "echo 0 1;echo 0 1;echo 0 1;echo 0 1;echo 0 1;echo 0 1;lock");
            is(59, () -> x.append(' '));
            is(60, () -> x.append('0'));
            fails(STATE, () -> x.append('0'));
            is(7, x::run);
            is(true, () -> x.isLocked(0));
            is(1, () -> x.append('x'));
        });
        says("Promise 55", "Appends a character to the input buffer.", () -> {
            EchoCensus x = new EchoCensus();
            for (char character : "row 7".toCharArray()) {
                x.append(character);
            }
            is(1, x::run);
            is(7, () -> x.capacity(0));
        });
        says("Promise 55", "Returns the number of characters in the buffer.", () -> {
            EchoCensus x = new EchoCensus();
            for (int length : upTo(60)) {
                is(length + 1, () -> x.append((char) (' ' + length)));
            }
            fails(ARGUMENT, x::run);
            is(1, () -> x.append(' '));
            is(2, () -> x.append('~'));
        });
        says("Promise 55", "if the character is not in the range from ' ' to '~'", () -> {
            for (char wrong : new char[] {0, 1, '\t', '\n', ' ' - 1, '~' + 1, 128, 160, 255, 256 + 'r', 0xFFFF}) {
                refuses(ARGUMENT, Sentences::theatre, x -> x.append(wrong));
            }
            EchoCensus x = new EchoCensus();
            is(1, () -> x.append(' '));
            is(2, () -> x.append('~'));
        });
        says("Promise 55", "if the buffer contains 60 characters", () -> {
            refuses(STATE, () -> filled(60), x -> x.append(' '));
            refuses(STATE, () -> filled(60), x -> x.append('~'));
            EchoCensus x = filled(59);
            is(60, () -> x.append('1'));
        });
    }

    private static EchoCensus filled(int length) {
        EchoCensus x = rows(1, 1);
        Check.type(x, "lock 0;".repeat(9).substring(0, length));
        return x;
    }

    private static void running() {
        says("Promise 56", "Parses the contents of the input buffer as a program and executes it.", () -> {
            EchoCensus x = new EchoCensus();
            is("4", () -> Check.run(x, "row 2;echo 0 7;echo 0 8;heir 0 1"));
            is(2, () -> x.capacity(0));
            is(7, () -> x.loudness(0));
            is(8, () -> x.loudness(1));
            is(1, () -> x.heir(0));
            is("2", () -> Check.run(x, "remove 0;remove 1"));
            is(0, x::echoCount);
        });
        says("Promise 56", "Either all commands are executed or none.", () -> {
            String[] failing = {"row 1;row 13", "echo 1 5;echo 1 0", "remove 0;remove 0", "box h 1;box h 3",
                "lock 1;lock 1", "unlock 2;unlock 2", "move 2 1;move 2 1", "spread 0;spread 9",
                "heir 3 2;heir 3 3", "disown 3;disown 3", "phantoms 1 6;phantoms 1 1",
                "dismiss 0 2;dismiss 0 1", "lock 0;unlock 0;lock 0;spread 0"};
            for (String program : failing) {
                EchoCensus x = emptied(theatre());
                String before = Picture.ofState(x);
                int undoable = x.undoableCount();
                is(STATE.getName(), () -> Check.run(x, program));
                is(before, () -> Picture.ofState(x));
                is(undoable, x::undoableCount);
                is(6, () -> x.add(1, 1));
            }
            EchoCensus y = rows(1, 1);
            is(ARGUMENT.getName(), () -> Check.run(y, "lock 0;lock 1;lock x"));
            is(false, () -> y.isLocked(0));
            is(STATE.getName(), () -> Check.run(y, "lock 5;lock 1"));
            is(false, () -> y.isLocked(1));
        });
        says("Promise 56", "The buffer is empty afterwards, even if an exception is thrown.", () -> {
            EchoCensus x = new EchoCensus();
            is("1", () -> Check.run(x, "row 1"));
            is("1", () -> Check.run(x, "row 2"));
            is(ARGUMENT.getName(), () -> Check.run(x, "row"));
            is("1", () -> Check.run(x, "row 3"));
            is(STATE.getName(), () -> Check.run(x, "row 0"));
            is("1", () -> Check.run(x, "row 4"));
            is(4, x::rowCount);
            is(1, () -> x.append(' '));
        });
        says("Promise 56", "Returns the number of commands.", () -> {
            EchoCensus x = rows(12);
            is("1", () -> Check.run(x, "lock 0"));
            is("2", () -> Check.run(x, "unlock 0;spread 0"));
            is("6", () -> Check.run(x, "echo 0 1;echo 0 1;echo 0 1;echo 0 1;echo 0 1;echo 0 1"));
            is("8", () -> Check.run(new EchoCensus(), "row 1;row 2;row 3;row 4;row 5;row 6;row 7;row 8"));
        });
    }

    private static void failing() {
        says("Promise 56", "if the program is malformed; the error position is stored", () -> {
            EchoCensus x = rows(1);
            is(ARGUMENT.getName(), () -> Check.run(x, ""));
            is(0, x::errorPosition);
            is(ARGUMENT.getName(), () -> Check.run(x, "lock 0;x"));
            is(7, x::errorPosition);
            is(ARGUMENT.getName(), () -> Check.run(x, "lock 9;unlock"));
            is(13, x::errorPosition);
            fails(NO_ELEMENT, x::failedCommand);
            is(false, () -> x.isLocked(0));
            is(1, x::undoableCount);
        });
        says("Promise 56", "if the method of a command throws an exception; the index of this command", () -> {
            String[] failing = {"row 0", "row 13", "row 999", "phantoms 3 1", "phantoms 1 0", "phantoms 1 7",
                "phantoms 2 1", "dismiss 3 1", "dismiss 0 0", "dismiss 0 4", "dismiss 2 1", "echo 3 1",
                "echo 1 0", "echo 2 1", "move 5 0", "move 0 3", "move 0 0", "move 0 2", "remove 5", "remove 4",
                "heir 5 0", "heir 0 0", "heir 1 0", "disown 5", "disown 1", "lock 3", "lock 2", "unlock 3",
                "unlock 0", "box a 3", "spread 3", "spread 2"};
            for (String command : failing) {
                for (int index : upTo(6)) {
                    EchoCensus x = emptied(theatre());
                    is(STATE.getName(), () -> Check.run(x, "box a 0;".repeat(index) + command + ";lock 9"));
                    is(index, x::failedCommand);
                    is(5, x::errorPosition); // as before
                }
            }
            EchoCensus full = new EchoCensus();
            is(STATE.getName(), () -> Check.run(full, "row 1;".repeat(9) + "row 0"));
            is(8, full::failedCommand);
        });
    }

    private static void stored() {
        says("Promise 57", "Returns the stored error position.", () -> malformed(2, "ro"));
        says("Promise 57", "the latest malformed program", () -> {
            EchoCensus x = rows(1);
            String[] programs = {"row", "row 1;x", "", "lock 0 ", "!"};
            int[] positions = {3, 6, 0, 6, 0};
            for (int index : upTo(5)) {
                is(ARGUMENT.getName(), () -> Check.run(x, programs[index]));
                is(positions[index], x::errorPosition);
                Check.run(x, "spread 0");
                Check.run(x, "box a 0;unlock 0");
                is(positions[index], x::errorPosition);
            }
        });
        says("Promise 57", "if no program was malformed so far", () -> {
            refuses(NO_ELEMENT, EchoCensus::new, EchoCensus::errorPosition);
            EchoCensus x = rows(1);
            Check.run(x, "lock 0");
            Check.run(x, "lock 0");
            fails(NO_ELEMENT, x::errorPosition);
            Check.type(x, "x");
            fails(NO_ELEMENT, x::errorPosition);
            fails(ARGUMENT, x::run);
            is(0, x::errorPosition);
        });
        says("Promise 58", "Returns the stored index of a failed command.", () -> {
            EchoCensus x = rows(1);
            Check.run(x, "lock 0;unlock 0;unlock 0");
            is(2, x::failedCommand);
        });
        says("Promise 58", "the latest command that failed", () -> {
            EchoCensus x = rows(1);
            for (int index : new int[] {3, 0, 1, 6}) {
                is(STATE.getName(), () -> Check.run(x, "box a 0;".repeat(index) + "lock 1"));
                is(index, x::failedCommand);
                Check.run(x, "spread 0");
                Check.run(x, "x");
                fails(STATE, () -> x.unlock(0));
                is(index, x::failedCommand);
            }
        });
        says("Promise 58", "if no command failed so far", () -> {
            refuses(NO_ELEMENT, EchoCensus::new, EchoCensus::failedCommand);
            EchoCensus x = rows(1);
            Check.run(x, "lock 0");
            Check.run(x, "unlock x");
            fails(STATE, () -> x.lock(0));
            fails(NO_ELEMENT, x::failedCommand);
            Check.run(x, "lock 0");
            is(0, x::failedCommand);
        });
    }
}
