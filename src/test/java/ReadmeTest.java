import java.io.IOException;
import java.lang.reflect.Method;
import java.lang.reflect.Modifier;
import java.nio.file.Files;
import java.nio.file.Path;
import java.util.TreeSet;
import java.util.regex.Matcher;
import java.util.regex.Pattern;

/** Makes the calls of README.md's examples and compares their answers with those that are told behind them. */
public final class ReadmeTest {
    private static final Due DUE = new Due();
    private static final Pattern EXAMPLE = Pattern.compile("```java\\n(.*?)```", Pattern.DOTALL);
    private static final Pattern CALL = Pattern.compile("line\\.(\\w+)\\(([^)]*)\\);");
    private static final Pattern TOLD = Pattern.compile("// (-?\\d+)(:.*)?$");

    /** Counted, so that an example that is not understood is not taken for one that holds. */
    private static final TreeSet<String> CALLED = new TreeSet<>();
    private static int told;

    public static void main(String[] args) throws IOException, ReflectiveOperationException {
        String text = Files.readString(Path.of(args.length > 0 ? args[0] : ".", "README.md"));
        Matcher example = EXAMPLE.matcher(text);
        int examples = 0;
        while (example.find()) {
            follow(example.group(1));
            examples++;
        }
        DUE.is("examples", examples, 3);
        DUE.is("answers that are told", told, 27);
        everyCallIsTold(text);
        DUE.end();
    }

    private static void follow(String example) throws ReflectiveOperationException {
        StationLine line = new StationLine();
        for (String row : example.split("\n")) {
            Matcher call = CALL.matcher(row);
            int answer = 0;
            while (call.find()) {
                answer = answer(line, call.group(1), call.group(2));
            }
            Matcher due = TOLD.matcher(row);
            if (due.find()) {
                told++;
                DUE.is("README.md: " + row.trim(), answer, Integer.parseInt(due.group(1)));
            }
        }
    }

    /** The answer of a call that is not refused; true counts 1. */
    private static int answer(StationLine line, String name, String arguments) throws ReflectiveOperationException {
        CALLED.add(name);
        String[] words = arguments.isEmpty() ? new String[0] : arguments.split(", ");
        Object[] values = new Object[words.length];
        Class<?>[] types = new Class<?>[words.length];
        for (int i = 0; i < words.length; i++) {
            boolean truth = words[i].equals("true") || words[i].equals("false");
            types[i] = truth ? boolean.class : int.class;
            values[i] = truth ? (Object) Boolean.valueOf(words[i]) : (Object) Integer.valueOf(words[i]);
        }
        Object got = StationLine.class.getMethod(name, types).invoke(line, values);
        if (got instanceof Boolean done) {
            DUE.is("README.md: " + name + "(" + arguments + ")", done, true);
            return 1;
        }
        return got instanceof Integer number ? number : 0;
    }

    private static void everyCallIsTold(String text) {
        for (Method m : StationLine.class.getDeclaredMethods()) {
            if (Modifier.isPublic(m.getModifiers())) {
                DUE.is("README.md has an example of " + m.getName(), CALLED.contains(m.getName()), true);
                DUE.is("README.md's table has " + m.getName(), text.contains("| `" + m.getName() + "("), true);
            }
        }
    }
}
