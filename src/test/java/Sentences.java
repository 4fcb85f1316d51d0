import java.util.NoSuchElementException;
import java.util.concurrent.Callable;
import java.util.function.IntFunction;

/** What the tests of the document's sentences share. No test calls one object more than 512 times. */
abstract class Sentences {
    static final Class<NoSuchElementException> NO_ELEMENT = NoSuchElementException.class;
    static final Class<IndexOutOfBoundsException> NO_ROW = IndexOutOfBoundsException.class;
    static final Class<IllegalArgumentException> ARGUMENT = IllegalArgumentException.class;
    static final Class<IllegalStateException> STATE = IllegalStateException.class;
    static final Class<ArithmeticException> ARITHMETIC = ArithmeticException.class;

    /** Names of no box: the neighbours of 'a' and 'h', their capitals, digits and the ends of the range. */
    static final char[] NO_BOXES = {'a' - 1, 'h' + 1, 'A', 'H', '0', ' ', 'z', 0, 'a' + 256, 0xFFFF};

    static final Document DOCUMENT = new Document();

    private static String about = "";

    /** A call of one method, with its arguments. */
    interface Call {
        Object on(EchoCensus census);
    }

    /** A way to a census in a certain state. */
    interface Maker {
        EchoCensus make();
    }

    /** Runs the test of the one sentence that has these words. */
    static void says(String section, String words, Runnable test) {
        about = section + ", \"" + words + "\"";
        is(true, () -> DOCUMENT.quote(section, words));
        try {
            test.run();
        } catch (RuntimeException e) {
            Check.equal(about + " at " + place(e.getStackTrace()), "no exception", () -> e);
        }
    }

    static void is(Object want, Callable<?> call) {
        Check.equal(about + " at " + place(new Throwable().getStackTrace()), want, call);
    }

    static void fails(Class<? extends Exception> type, Callable<?> call) {
        Check.fails(about + " at " + place(new Throwable().getStackTrace()), type, call);
    }

    /** Checks that the call throws this exception and that the census is as if it had not been called. */
    static void refuses(Class<? extends Exception> type, Maker maker, Call call) {
        EchoCensus called = maker.make();
        fails(type, () -> call.on(called));
        is(Picture.of(maker.make()), () -> Picture.of(called));
        EchoCensus calledTwice = maker.make();
        fails(type, () -> call.on(calledTwice));
        fails(type, () -> call.on(calledTwice));
        is(Picture.ofPast(maker.make()), () -> Picture.ofPast(calledTwice));
    }

    /** Checks that the call is refused for rows that do not exist. */
    static void refusesNoRows(IntFunction<Call> call) {
        for (int row : noRows(3)) {
            refuses(NO_ROW, Sentences::theatre, call.apply(row));
        }
        refuses(NO_ROW, EchoCensus::new, call.apply(0));
        refuses(NO_ROW, Sentences::fullHouse, call.apply(8));
    }

    /** Checks that the call is refused for echoes that are not active. */
    static void refusesNoEchoes(IntFunction<Call> call) {
        for (int id : noIds(6)) {
            refuses(NO_ELEMENT, Sentences::theatre, call.apply(id));
        }
        refuses(NO_ELEMENT, Sentences::theatre, call.apply(5)); // was removed
        refuses(NO_ELEMENT, () -> rows(3, 3), call.apply(0));
        refuses(NO_ELEMENT, () -> chain(24), call.apply(24));
    }

    /** Checks the length that a formatting call answers, and the line that it leaves. */
    static void formats(String line, EchoCensus x, Callable<?> call) {
        is(line.length(), call);
        is(line, () -> Check.line(x));
    }

    /** Checks that the program is malformed, and where. */
    static void malformed(int position, String program) {
        EchoCensus x = rows(9, 9);
        is(ARGUMENT.getName(), () -> Check.run(x, program));
        is(position, x::errorPosition);
    }

    /** Checks that the program is well-formed, whether its commands succeed or not. */
    static void wellFormed(String program) {
        EchoCensus x = rows(9, 9);
        is(false, () -> Check.run(x, program).equals(ARGUMENT.getName()));
        fails(NO_ELEMENT, x::errorPosition);
    }

    private static String place(StackTraceElement[] frames) {
        for (StackTraceElement frame : frames) {
            if (frame.getClassName().endsWith("Sentences") && !frame.getClassName().equals("Sentences")) {
                return frame.getFileName() + ":" + frame.getLineNumber();
            }
        }
        return "?";
    }

    static int[] upTo(int count) {
        int[] numbers = new int[count];
        for (int index = 0; index < count; index++) {
            numbers[index] = index;
        }
        return numbers;
    }

    /** Numbers of no row, if there are so many rows. */
    static int[] noRows(int rows) {
        return new int[] {rows, rows + 1, 8, 9, rows + 8, rows + 256, rows + 65536, Integer.MAX_VALUE,
            -1, -8, Integer.MIN_VALUE, Integer.MIN_VALUE + 8};
    }

    /** Ids of no echo, if this is the next free id. */
    static int[] noIds(int nextId) {
        return new int[] {nextId, nextId + 1, nextId + 24, nextId + 256, 999, Integer.MAX_VALUE,
            -1, -24, Integer.MIN_VALUE};
    }

    static EchoCensus rows(int... capacities) {
        EchoCensus x = new EchoCensus();
        for (int capacity : capacities) {
            x.addRow(capacity);
        }
        return x;
    }

    static void addAll(EchoCensus x, int row, int... loudnesses) {
        for (int loudness : loudnesses) {
            x.add(row, loudness);
        }
    }

    /** So many echoes in two rows by turns, each with loudness 1 and the next one as its heir. */
    static EchoCensus chain(int echoes) {
        EchoCensus x = rows(12, 12);
        for (int id = 0; id < echoes; id++) {
            x.add(id % 2, 1);
        }
        for (int id = 0; id + 1 < echoes; id++) {
            x.setHeir(id, id + 1);
        }
        return x;
    }

    /** How many echoes the rows of fullHouse() hold; their ids go down with the rows. */
    static final int[] OCCUPANCIES = {2, 0, 3, 1, 0, 4, 0, 5};

    static EchoCensus fullHouse() {
        EchoCensus x = rows(12, 12, 12, 12, 12, 12, 12, 12);
        for (int row = 7; row >= 0; row--) {
            for (int echo = 0; echo < OCCUPANCIES[row]; echo++) {
                x.add(row, 1 + row);
            }
        }
        return x;
    }

    /**
     * Three rows, "0[3/2+3] 0:10 1:20 2:30", "1[1/3] 3:40" and "2[1/1]! 4:50", where 0 and 3 have the
     * heir 1, 5 was removed, 'b' names row 1, and something stands in the line and in the buffer, is
     * stored of programs that failed, and is saved.
     */
    static EchoCensus theatre() {
        EchoCensus x = rows(2, 3, 1);
        x.addPhantoms(0, 3);
        addAll(x, 0, 10, 20, 30);
        addAll(x, 1, 40);
        addAll(x, 2, 50);
        addAll(x, 1, 60);
        x.remove(5);
        x.save();
        Check.run(x, "ro");
        Check.run(x, "lock 9");
        x.formatEcho(1);
        x.setHeir(0, 1);
        x.setHeir(3, 1);
        x.lock(2);
        x.nameRow('b', 1);
        Check.type(x, "row 1");
        return x;
    }
}
