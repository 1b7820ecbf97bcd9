import java.io.IOException;
import java.lang.reflect.Constructor;
import java.lang.reflect.Field;
import java.lang.reflect.Method;
import java.lang.reflect.Modifier;
import java.nio.file.Files;
import java.nio.file.Path;
import java.util.Arrays;
import java.util.TreeSet;
import java.util.regex.Matcher;
import java.util.regex.Pattern;

/** The face of the class is the one in the document, and there is no other. */
public final class FaceTest {
    private FaceTest() {
    }

    private static String nameOf(Method m) {
        String kinds = Arrays.stream(m.getParameterTypes()).map(Class::getSimpleName)
            .reduce((a, b) -> a + ", " + b).orElse("");
        String thrown = Arrays.stream(m.getExceptionTypes()).map(Class::getSimpleName)
            .reduce((a, b) -> a + ", " + b).orElse("");
        return m.getReturnType().getSimpleName() + " " + m.getName() + "(" + kinds + ") throws " + thrown;
    }

    private static TreeSet<String> methodsOfTheDocument() throws IOException {
        String text = new String(Files.readAllBytes(Path.of("../shared/DOC.md")));
        String face = text.substring(text.indexOf("```java"), text.indexOf("## Terms"));
        Matcher m = Pattern.compile("public (\\w+) (\\w+)\\(([^)]*)\\)(?: throws ([^;]*))?;").matcher(face);
        TreeSet<String> all = new TreeSet<>();
        while (m.find()) {
            String kinds = m.group(3).replaceAll("(\\w+) \\w+", "$1");
            all.add(m.group(1) + " " + m.group(2) + "(" + kinds + ") throws " + (m.group(4) == null ? "" : m.group(4)));
        }
        return all;
    }

    private static boolean isSeen(int modifiers) {
        return !Modifier.isPrivate(modifiers);
    }

    private static void methods() throws IOException {
        TreeSet<String> all = new TreeSet<>();
        TreeSet<String> seen = new TreeSet<>();
        TreeSet<String> hidden = new TreeSet<>();
        for (Method m : Ironbark.class.getDeclaredMethods()) {
            if (isSeen(m.getModifiers())) {
                all.add(nameOf(m));
                seen.add(m.getName());
            } else {
                hidden.add(m.getName());
            }
        }
        TreeSet<String> due = methodsOfTheDocument();
        Check.same("methods in the document", due.size(), 45);
        Check.same("the methods", all, due);
        hidden.retainAll(seen);
        Check.same("private ones of the same name", hidden.isEmpty(), true);
    }

    private static void constants() throws IllegalAccessException {
        TreeSet<String> all = new TreeSet<>();
        for (Field f : Ironbark.class.getDeclaredFields()) {
            if (isSeen(f.getModifiers())) {
                String kind = Modifier.toString(f.getModifiers()) + " " + f.getType();
                Check.same(f.getName(), kind, "public static final int");
                all.add(f.getName() + " " + f.getInt(null));
            }
        }
        Check.same("the constants", all, new TreeSet<>(Arrays.asList("NONE -1", "STANDING 0", "READY 1", "RUNNING 2",
            "WRECKED 3", "STATION 0", "TRAIN 1", "LOADED 2", "UNLOADED 3")));
    }

    private static void theClass() {
        Check.same("public and final", Modifier.toString(Ironbark.class.getModifiers()), "public final");
        Check.same("no package", Ironbark.class.getName(), "Ironbark");
        Constructor<?>[] made = Ironbark.class.getDeclaredConstructors();
        Check.same("one constructor", made.length, 1);
        Check.same("it is public", made[0].toString(), "public Ironbark()");
        Check.same("classes", Ironbark.class.getDeclaredClasses().length <= 11, true);
        for (Class<?> c : Ironbark.class.getDeclaredClasses()) {
            Check.same(c.getName() + " is static", Modifier.isStatic(c.getModifiers()), true);
            Check.same(c.getName() + " is hidden", Modifier.isPublic(c.getModifiers()), false);
        }
    }

    public static void main(String[] arguments) throws IOException, IllegalAccessException {
        methods();
        constants();
        theClass();
        Check.end();
    }
}
