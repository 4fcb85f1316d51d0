import java.io.IOException;
import java.lang.reflect.InvocationTargetException;
import java.lang.reflect.Method;
import java.lang.reflect.Modifier;
import java.nio.file.Files;
import java.nio.file.Path;
import java.util.ArrayList;
import java.util.List;
import java.util.NoSuchElementException;
import java.util.regex.Matcher;
import java.util.regex.Pattern;

/** README.md: the calls that it shows answer what it says, and it names every method and command. */
public final class ReadmeTest {
    private static final Pattern CALL = Pattern.compile(
            "census\\.(\\w+)\\((.*)\\); +// (?:throws (\\w+)|([^:]+))(?:: .*)?");
    private static final Pattern TYPING = Pattern.compile(
            "for \\(char c : \"(.*)\"\\.toCharArray\\(\\)\\) \\{ census\\.append\\(c\\); \\}");
    private static final Pattern COMMANDS = Pattern.compile(
            "(?m)^\\| (?:`\\w+\\([a-z, ]*\\)`(?:, )?)+ \\| `([a-z]+ [^`]*)`(?:, `([^`]*)`)? \\| [^|]* \\|$");

    public static void main(String[] args) throws IOException {
        String readme = Files.readString(Path.of("README.md"));
        String[] rows = readme.split("```java\n")[1].split("```")[0].split("\n");
        Check.equal("the first row", "EchoCensus census = new EchoCensus();", () -> rows[0]);
        EchoCensus census = new EchoCensus();
        for (int index = 1; index < rows.length; index++) {
            follow(census, rows[index]);
        }
        Check.equal("the line that README.md shows", true,
                () -> readme.contains("the line \"" + Check.line(census) + "\""));
        namesEachMethod(readme);
        commandsAreWellFormed(readme);
        for (String words : new String[] {"new EchoCensus()", "at most 512 calls", "    .ci/run\n"}) {
            Check.equal("README.md says " + words, true, () -> readme.contains(words));
        }
        Check.finish();
    }

    private static void follow(EchoCensus census, String row) {
        Matcher typing = TYPING.matcher(row);
        Matcher call = CALL.matcher(row);
        if (typing.matches()) {
            Check.type(census, typing.group(1));
        } else if (call.matches()) {
            String due = call.group(3) == null ? call.group(4) : call.group(3);
            Check.equal(row, due, () -> answer(census, call.group(1), call.group(2)));
        } else {
            Check.equal("README.md", "a call with its answer", () -> row);
        }
    }

    /** What the call answers, or the name of the exception as README.md writes it. */
    private static String answer(EchoCensus census, String name, String arguments) throws Exception {
        List<Class<?>> types = new ArrayList<>();
        List<Object> values = new ArrayList<>();
        for (String argument : arguments.isEmpty() ? new String[0] : arguments.split(", ")) {
            boolean isCharacter = argument.startsWith("'");
            types.add(isCharacter ? char.class : int.class);
            values.add(isCharacter ? (Object) argument.charAt(1) : (Object) Integer.valueOf(argument));
        }
        Method method = EchoCensus.class.getMethod(name, types.toArray(new Class<?>[0]));
        try {
            return String.valueOf(method.invoke(census, values.toArray()));
        } catch (InvocationTargetException e) {
            return e.getCause().getClass().getSimpleName();
        }
    }

    private static void commandsAreWellFormed(String readme) {
        List<String> commands = new ArrayList<>();
        Matcher row = COMMANDS.matcher(readme);
        while (row.find()) {
            commands.add(row.group(1));
            if (row.group(2) != null) {
                commands.add(row.group(2));
            }
        }
        Check.equal("the number of commands that README.md shows", 12, commands::size);
        for (String command : commands) {
            EchoCensus census = new EchoCensus();
            Check.run(census, command);
            Check.fails("the command " + command, NoSuchElementException.class, census::errorPosition);
        }
    }

    private static void namesEachMethod(String readme) {
        String tables = readme.substring(readme.indexOf("### The calls"));
        for (Method method : EchoCensus.class.getDeclaredMethods()) {
            if (Modifier.isPublic(method.getModifiers())) {
                String name = "`" + method.getName() + "(";
                Check.equal("a table of README.md names " + name, true, () -> tables.contains(name));
            }
        }
    }
}
