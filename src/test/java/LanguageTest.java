import java.lang.reflect.Field;
import java.lang.reflect.Method;
import java.lang.reflect.Modifier;
import java.nio.file.Path;
import java.util.ArrayList;
import java.util.List;
import java.util.regex.Matcher;
import java.util.regex.Pattern;

/**
 * What of LANGUAGE.md can be read off the words of the program and off its classes. It asks for less than
 * the language leaves where this program needs less: no list, no try, no array but in one class.
 */
public final class LanguageTest {
    private static final Due due = new Due("LanguageTest");
    private static final String WHOLE = Texts.of(Path.of("src/main/java/WishWell.java"));
    private static final String BARE = withoutTextsAndComments(WHOLE);

    public static void main(String[] args) {
        signs();
        classes();
        words();
        libraryCalls();
        staticFields();
        exceptions();
        arraysAndCasts();
        doubles();
        sizes();
        due.close();
    }

    private static String withoutTextsAndComments(String source) {
        String bare = source.replaceAll("(?s)/\\*.*?\\*/", " ").replaceAll("//[^\n]*", " ");
        return bare.replaceAll("\"[^\"\n]*\"", "\"\"");
    }

    private static void none(String what, String text, String pattern) {
        Matcher found = Pattern.compile(pattern).matcher(text);
        due.same(what, found.find() ? found.group() : "none", "none");
    }

    private static List<String> found(String text, String pattern) {
        List<String> all = new ArrayList<>();
        Matcher found = Pattern.compile(pattern).matcher(text);
        while (found.find()) {
            all.add(found.group(1));
        }
        return all;
    }

    /** Rule 4. */
    private static void signs() {
        none("signs beyond 127", WHOLE, "[^\\n\\x20-\\x7e]");
    }

    private static List<Class<?>> allClasses() {
        List<Class<?>> all = new ArrayList<>();
        all.add(WishWell.class);
        all.addAll(List.of(WishWell.class.getDeclaredClasses()));
        return all;
    }

    /** Rules 1, 2, 6 and 11. */
    private static void classes() {
        due.same("at most 12 classes", allClasses().size() <= 12 ? 1 : 0, 1);
        due.same("all classes are seen", found(BARE, "\\b(class|enum|record|interface)\\b").size(), allClasses().size());
        List<String> face = new ArrayList<>();
        for (Method method : WishWell.class.getMethods()) {
            face.add(method.getName());
        }
        for (Class<?> each : allClasses()) {
            String name = each.getSimpleName();
            int modifiers = each.getModifiers();
            boolean closed = !Modifier.isPublic(modifiers) && !Modifier.isProtected(modifiers);
            due.same(name + " is closed and static", each == WishWell.class || closed && Modifier.isStatic(modifiers) ? 1 : 0, 1);
            int fields = 0;
            for (Field field : each.getDeclaredFields()) {
                fields += Modifier.isStatic(field.getModifiers()) ? 0 : 1;
            }
            due.same(name + " has at most 20 fields", fields <= 20 ? 1 : 0, 1);
            for (Method method : each.getDeclaredMethods()) {
                String told = name + "." + method.getName();
                due.same(told + " takes at most 7 parameters", method.getParameterCount() <= 7 ? 1 : 0, 1);
                boolean open = Modifier.isPublic(method.getModifiers());
                due.same(told + " has a name of its own", each == WishWell.class && open || !face.contains(method.getName()) ? 1 : 0, 1);
            }
        }
    }

    /** Rules 1, 6, 10 and 13. */
    private static void words() {
        none("package, or library beyond java.lang", BARE, "\\b(package|import)\\b|\\bjava\\.");
        none("words that are ruled out", BARE,
                "\\b(try|catch|finally|synchronized|assert|protected|volatile|native|extends|implements|yield|var|instanceof)\\b");
        none("lambdas and method references", BARE, "->|::|@");
        none("texts that are joined by +", BARE, "\"\"\\s*\\+|\\+\\s*\"\"");
        none("loops without a bound", BARE, "\\b(while|do)\\b|;\\s*;");
    }

    /** Rule 4: of the library only these, and no class of it is made but exceptions. */
    private static void libraryCalls() {
        for (String call : found(BARE, "\\b([A-Z]\\w*[a-z]\\w*\\.\\w+)\\(")) {
            due.same(call, List.of("Math.min", "Math.max", "System.arraycopy").contains(call) ? 1 : 0, 1);
        }
        List<String> own = new ArrayList<>();
        for (Class<?> each : allClasses()) {
            own.add(each.getSimpleName());
        }
        for (String made : found(BARE.replaceAll("throw new \\w+", ""), "\\bnew (\\w+)")) {
            due.same("new " + made, made.equals("int") || own.contains(made) ? 1 : 0, 1);
        }
    }

    /** Rule 5. */
    private static void staticFields() {
        none("static initialisers", BARE, "\\bstatic\\s*\\{");
        for (Class<?> each : allClasses()) {
            for (Field field : each.getDeclaredFields()) {
                if (Modifier.isStatic(field.getModifiers())) {
                    due.same(field.getName() + " is final", Modifier.isFinal(field.getModifiers()) ? 1 : 0, 1);
                    due.same(field.getName() + " is a number", field.getType().getName(), "int");
                }
            }
        }
    }

    /** Rule 6: each throw has a written text, and stands behind a test in a call of the face. */
    private static void exceptions() {
        int throwing = found(BARE, "\\b(throw) ").size();
        String right = "\n        if \\([^\n]*\\) \\{\n            (throw) new "
                + "(?:IllegalStateException|IllegalArgumentException|IndexOutOfBoundsException)\\(\"\"\\);\n        \\}";
        due.same("throws behind a test", found(BARE, right).size(), throwing);
        for (String method : methods()) {
            if (method.contains(" throw ")) {
                due.same("throws in a call of the face", method.startsWith("    public ") && method.contains(" throws ") ? 1 : 0, 1);
            }
        }
    }

    /** Rule 7, as NOTES.md says it: Row alone touches an array, and looks at the index before. */
    private static void arraysAndCasts() {
        int from = BARE.indexOf("class Row {");
        int to = BARE.indexOf("\n    }\n", from);
        due.same("class Row is there", from > 0 && to > from ? 1 : 0, 1);
        none("arrays outside of Row", BARE.substring(0, from) + BARE.substring(to), "\\[");
        String row = BARE.substring(from, to);
        String guard = "index >= 0 && index < cells.length";
        int touched = found(row, "(cells\\[index\\])").size();
        due.same("elements that are touched", touched, 3);
        due.same("elements behind a look at the index",
                found(row, Pattern.quote(guard) + "(?: \\? |\\) \\{\\s*)(cells\\[index\\])").size(), touched);
        due.same("other brackets", found(row, "(\\[)").size() - touched, 2);
        none("casts but of numbers", BARE, "\\(([A-Z]\\w*|int|long|byte|short|char)\\) *\\w");
        none("null", BARE, "\\bnull\\b");
    }

    /** Rule 3: no library on doubles, and the only quotient of them behind a test of its divisor. */
    private static void doubles() {
        due.same("casts to double", found(BARE, "(\\(double\\))").size(), 2);
        due.same("the quotient of doubles", found(BARE, "(granted == 0 \\? 0\\.0 : \\(double\\) waited / \\(double\\) granted;)").size(), 1);
        for (String divisor : found(BARE, "[/%] (\\(?[\\w.]+)")) {
            due.same("divisor " + divisor,
                    List.of("10", "4", "2", "KINDS", "WEEKDAYS", "lands.size", "value", "(double").contains(divisor) ? 1 : 0, 1);
        }
    }

    /** The methods and constructors with all their lines: from a line that opens one to the brace that ends it. */
    private static List<String> methods() {
        return found(BARE, "(?s)\n(( {4}| {8})(?:(?:public|private|static) )*[\\w\\[\\]]+(?: \\w+)?\\([^)]*\\)[^;{]*\\{\n.*?\n\\2\\})\n");
    }

    /** Rule 11. */
    private static void sizes() {
        int methods = 0;
        for (String method : methods()) {
            methods++;
            due.same("at most 60 lines: " + method.substring(0, method.indexOf('\n')).trim(), method.split("\n").length <= 60 ? 1 : 0, 1);
        }
        int there = 0;
        for (Class<?> each : allClasses()) {
            there += each.getDeclaredMethods().length;
        }
        // Two constructors are written out, those of WishWell and Row.
        due.same("methods that are measured", methods, there + 2);
    }
}
