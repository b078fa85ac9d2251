import java.io.IOException;
import java.lang.reflect.Constructor;
import java.lang.reflect.Field;
import java.lang.reflect.Method;
import java.lang.reflect.Modifier;
import java.nio.file.Files;
import java.nio.file.Path;
import java.util.Arrays;
import java.util.List;
import java.util.TreeSet;
import java.util.regex.Matcher;
import java.util.regex.Pattern;

/** The face of the document, and those rules of LANGUAGE.md that can be seen from outside or in the text. */
public final class LanguageTest {
    private static final Due DUE = new Due();
    private static final List<String> FACE = List.of(
            "int station(int,int)", "int datagram(int,int,int,int)", "boolean data(int,int,int)", "int send()",
            "int returned(int,int)", "boolean cut(int,boolean)", "boolean spoil(int)", "void tick()",
            "boolean sense(int,int,int)", "int actuator(int,int)", "int state(int)", "int scan()", "int setup()",
            "int request(int)", "boolean output(int,int)", "int cycle()", "int input(int)",
            "int ask(int,int,int,int)", "int answer(int)");

    public static void main(String[] args) throws IOException {
        face();
        insideClasses();
        text(Files.readString(Path.of(args.length > 0 ? args[0] : ".", "src/main/java/StationLine.java")));
        DUE.end();
    }

    private static String signature(Method m) {
        StringBuilder text = new StringBuilder(m.getReturnType().getName() + " " + m.getName() + "(");
        for (int i = 0; i < m.getParameterCount(); i++) {
            text.append(i == 0 ? "" : ",").append(m.getParameterTypes()[i].getName());
        }
        return text.append(")").toString();
    }

    private static void face() {
        DUE.is("the class's modifiers", StationLine.class.getModifiers(), Modifier.PUBLIC | Modifier.FINAL);
        TreeSet<String> shown = new TreeSet<>();
        for (Method m : StationLine.class.getDeclaredMethods()) {
            if (!Modifier.isPrivate(m.getModifiers())) {
                shown.add(signature(m));
                DUE.is("modifiers of " + m.getName(), m.getModifiers(), Modifier.PUBLIC);
            }
        }
        DUE.is("the methods " + shown, shown.equals(new TreeSet<>(FACE)), true);
        Constructor<?>[] constructors = StationLine.class.getDeclaredConstructors();
        DUE.is("constructors", constructors.length, 1);
        DUE.is("parameters of the constructor", constructors[0].getParameterCount(), 0);
        DUE.is("modifiers of the constructor", constructors[0].getModifiers(), Modifier.PUBLIC);
        for (Field f : StationLine.class.getDeclaredFields()) {
            DUE.is(f.getName() + " is private", Modifier.isPrivate(f.getModifiers()), true);
        }
    }

    private static void insideClasses() {
        Class<?>[] inside = StationLine.class.getDeclaredClasses();
        DUE.is("not more than twelve classes", inside.length < 12, true);
        for (Class<?> c : inside) {
            int modifiers = c.getModifiers();
            DUE.is(c + " is static", Modifier.isStatic(modifiers), true);
            DUE.is(c + " is not public", Modifier.isPublic(modifiers) || Modifier.isProtected(modifiers), false);
        }
        Class<?>[] all = Arrays.copyOf(inside, inside.length + 1);
        all[inside.length] = StationLine.class;
        for (Class<?> c : all) {
            int fields = 0;
            for (Field f : c.getDeclaredFields()) {
                boolean isStatic = Modifier.isStatic(f.getModifiers());
                DUE.is(f + " is final, if static", !isStatic || Modifier.isFinal(f.getModifiers()), true);
                fields += isStatic ? 0 : 1;
            }
            DUE.is(c + " has not more than twenty fields", fields <= 20, true);
            for (Method m : c.getDeclaredMethods()) {
                boolean named = FACE.stream().anyMatch(f -> f.contains(" " + m.getName() + "("));
                boolean shown = c == StationLine.class && Modifier.isPublic(m.getModifiers());
                DUE.is(m + " has a name of its own", named && !shown, false);
                DUE.is(m + " has not more than seven parameters", m.getParameterCount() <= 7, true);
            }
        }
    }

    private static void text(String source) {
        String code = source.replaceAll("(?s)/\\*.*?\\*/", "").replaceAll("//[^\n]*", "");
        for (String word : List.of("->", "::", "\\bsynchronized\\b", "\\bassert\\b", "\\bfinally\\b", "\\btry\\b",
                "\\bthrow\\b", "\\bpackage\\b", "\\bThread\\b", "\\bRandom\\b", "\\bSystem\\.(?!arraycopy)",
                "\\bArrays\\.(?!fill)", "\\bMath\\.(?!max|min)", "\"")) {
            DUE.is("the text has " + word, Pattern.compile(word).matcher(code).find(), false);
        }
        Matcher imports = Pattern.compile("import ([^;]*);").matcher(code);
        while (imports.find()) {
            DUE.is("import of " + imports.group(1), imports.group(1).equals("java.util.Arrays"), true);
        }
    }
}
