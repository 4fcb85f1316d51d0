import java.util.concurrent.Callable;

/** Counts and prints the answers that are not as due. */
final class Check {
    // A row of 18 echoes with ids below 512 takes less.
    private static final int LONGEST_LINE = 200;

    private static int wrong = 0;
    private static int checks = 0;

    private Check() {
    }

    static void equal(String what, Object want, Callable<?> call) {
        checks++;
        String got = answer(call);
        if (!got.equals(String.valueOf(want))) {
            wrong++;
            System.out.println(what + " answered " + got + ", due is " + want);
        }
    }

    static void fails(String what, Class<? extends Exception> type, Callable<?> call) {
        equal(what, type.getName(), call);
    }

    /** The answer of a call as a text, or the name of the exception that it throws. */
    static String answer(Callable<?> call) {
        try {
            return String.valueOf(call.call());
        } catch (Exception e) {
            return e.getClass().getName();
        }
    }

    /** The line of the census, read character by character. */
    static String line(EchoCensus census) {
        StringBuilder text = new StringBuilder();
        try {
            while (text.length() < LONGEST_LINE) {
                text.append(census.lineChar(text.length()));
            }
            return text + " ... without an end";
        } catch (IndexOutOfBoundsException e) {
            return text.toString();
        }
    }

    static void type(EchoCensus census, String text) {
        for (char character : text.toCharArray()) {
            census.append(character);
        }
    }

    static String run(EchoCensus census, String text) {
        type(census, text);
        return answer(census::run);
    }

    static void finish() {
        System.out.println(checks + " checks, " + wrong + " wrong");
        if (wrong != 0) {
            System.exit(1);
        }
    }
}
