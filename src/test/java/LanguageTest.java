import java.io.IOException;
import java.lang.reflect.Executable;
import java.lang.reflect.Field;
import java.lang.reflect.Modifier;
import java.nio.file.Files;
import java.nio.file.Path;
import java.util.ArrayList;
import java.util.Arrays;
import java.util.List;
import java.util.regex.Matcher;
import java.util.regex.Pattern;

/** What can be seen in the program's text, and in its classes, of the rules in LANGUAGE.md. */
public final class LanguageTest {
    private static final String[] NOT_ALLOWED = {"->", "::", "\\bfinally\\b", "\\bsynchronized\\b", "\\bassert\\b",
        "\\bcatch\\b", "\\bpackage\\b", "\\bSystem\\.(?!arraycopy)", "\\bprotected\\b", "\\.equals\\(",
        "\\bhashCode\\b", "\\btoString\\b", "\\bObject\\b", "\\bthis\\(", "Exact\\(", "\\[\\]\\[\\]\\[\\]",
        "\\bstatic \\{", "\\bvar\\b", "\"[^\"]*\"\\s*\\+", "\\+\\s*\"", "\\bgetClass\\b", "\\bMath\\.random\\b"};

    private LanguageTest() {
    }

    private static String withoutComments(String text) {
        return text.replaceAll("(?s)/\\*.*?\\*/", "").replaceAll("//[^\n]*", "");
    }

    private static void words(String code) {
        for (String word : NOT_ALLOWED) {
            Matcher m = Pattern.compile(word).matcher(code);
            Check.same("has no " + word, m.find() ? m.group() : "none", "none");
        }
        Matcher imports = Pattern.compile("import ([\\w.*]+);").matcher(code);
        while (imports.find()) {
            boolean isAllowed = List.of("java.util.ArrayList", "java.util.Arrays").contains(imports.group(1));
            Check.same("import of " + imports.group(1), isAllowed, true);
        }
        Matcher thrown = Pattern.compile("throw\\s+(new \\w+\\()").matcher(code);
        while (thrown.find()) {
            String named = "new (IndexOutOfBounds|IllegalArgument|IllegalState)Exception\\(";
            Check.same(thrown.group(1), thrown.group(1).matches(named), true);
        }
    }

    /** The length of each method, whose first line ends with a brace at four or eight spaces. */
    private static void lengths(String text) {
        String[] lines = text.split("\n");
        int begun = -1;
        for (int i = 0; i < lines.length; i++) {
            if (lines[i].matches("( {4}| {8})[a-z].*\\(.*") && !lines[i].endsWith(";")) {
                begun = i;
            }
            if (begun >= 0 && lines[i].matches(" {4}\\}| {8}\\}")) {
                Check.same("lines of " + lines[begun].trim(), i - begun <= 60, true);
                begun = -1;
            }
        }
    }

    private static void signs(String text) {
        for (int i = 0; i < text.length(); i++) {
            char c = text.charAt(i);
            if (c > 126 || c < 32 && c != '\n') {
                Check.same("sign at " + i, (int) c, 32);
            }
        }
        Check.same("ends with a line", text.endsWith("}\n"), true);
    }

    /** Rule 5: static fields are constants of these kinds; and rule 11: some twenty other ones, seven parameters. */
    private static void membersOf(Class<?> c) {
        int fields = 0;
        for (Field f : c.getDeclaredFields()) {
            if (Modifier.isStatic(f.getModifiers())) {
                boolean isConstant = Modifier.isFinal(f.getModifiers())
                    && f.getType().getSimpleName().matches("int|long|boolean|char|String");
                Check.same(c.getName() + "." + f.getName() + " is a constant", isConstant, true);
            } else {
                fields++;
            }
        }
        Check.same("fields of " + c.getName() + ", " + fields, fields <= 20, true);
        List<Executable> all = new ArrayList<>(Arrays.asList(c.getDeclaredMethods()));
        all.addAll(Arrays.asList(c.getDeclaredConstructors()));
        for (Executable e : all) {
            Check.same("parameters of " + e, e.getParameterCount() <= 7, true);
        }
    }

    private static void classes() {
        List<Class<?>> all = new ArrayList<>(Arrays.asList(Ironbark.class.getDeclaredClasses()));
        all.add(Ironbark.class);
        Check.same("classes, " + all.size(), all.size() <= 12, true);
        for (Class<?> c : all) {
            membersOf(c);
        }
    }

    public static void main(String[] arguments) throws IOException {
        String text = new String(Files.readAllBytes(Path.of("src/main/java/Ironbark.java")));
        words(withoutComments(text));
        lengths(text);
        signs(text);
        classes();
        Check.end();
    }
}
