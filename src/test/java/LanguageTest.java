import java.io.IOException;
import java.lang.reflect.Field;
import java.lang.reflect.Method;
import java.lang.reflect.Modifier;
import java.nio.file.Files;
import java.nio.file.Path;
import java.util.ArrayList;
import java.util.List;
import java.util.Set;
import java.util.TreeSet;
import java.util.regex.Matcher;
import java.util.regex.Pattern;

/** The face of the class, and those rules of LANGUAGE.md that can be seen from the text. */
public final class LanguageTest {
    private static final String[] FACE = {
        "int begin(int)", "int lot(int)", "int go(int)", "int rain(int)", "int breakOff(int)", "int wash()",
        "int set(int,int)", "int append(int)", "int clear()", "int fault()", "int carryOut()", "int why(int)",
        "int cell(int,int)", "int grain(int,int)", "int screens(int)", "int ring(int)", "int apart(int,int)",
        "int longest(int)", "int count(int)", "double density()", "int ifGone(int,int)", "int ifBroken(int,int)",
        "int undo()", "int save()", "int restore()"};
    private static final String[] RULED_OUT = {
        "\\bpackage\\b", "\\bimport (?!java\\.util\\.(ArrayList|List|Arrays|Iterator|NoSuchElementException);)",
        "\\bthrow (?!new (IllegalState|IllegalArgument|IndexOutOfBounds|Arithmetic|UnsupportedOperation|NoSuchElement"
                + "|Runtime)(Exception)\\()",
        "\\bcatch \\((Throwable|Error|Exception|NullPointer|ArrayIndex|ClassCast|NegativeArray|ArrayStore)",
        "\\btry \\(", "\\bfinally\\b", "(?m)^(?!.*\\b(case|default)\\b).*->", "::", "\\bsynchronized\\b",
        "\\bassert\\b", "Exact\\(", "\\bwhile \\(true\\)", "for \\([^;]*;\\s*;", "\\bprotected\\b", "\\bstatic \\{",
        "\\.(hashCode|getClass|getMessage|forEach|stream)\\(", "\\bMath\\.random", "\\bSystem\\.(?!arraycopy\\()"};

    private LanguageTest() {
    }

    public static void main(String[] args) throws IOException {
        face();
        members();
        text(Files.readString(Path.of("src/main/java/RimGrains.java")));
        Check.end("LanguageTest");
    }

    private static void face() {
        Set<String> found = new TreeSet<>();
        for (Method method : RimGrains.class.getDeclaredMethods()) {
            if (!Modifier.isPrivate(method.getModifiers()) && !method.isSynthetic()) {
                found.add(method.getReturnType() + " " + method.getName() + parameters(method));
                Check.due(method.getName() + " is public alone", method.getModifiers(), Modifier.PUBLIC);
            }
        }
        Check.holds("the face is that of the document: " + found, found.equals(new TreeSet<>(List.of(FACE))));
        Check.due("class", RimGrains.class.getModifiers(), Modifier.PUBLIC | Modifier.FINAL);
        Check.due("constructors", RimGrains.class.getDeclaredConstructors().length, 1);
        Check.due("public constructors", RimGrains.class.getConstructors().length, 1);
        Set<String> constants = new TreeSet<>();
        for (Field field : RimGrains.class.getDeclaredFields()) {
            if (!Modifier.isPrivate(field.getModifiers())) {
                constants.add(field.getName());
                Check.due(field.getName(), field.getModifiers(), Modifier.PUBLIC | Modifier.STATIC | Modifier.FINAL);
            }
        }
        Check.holds("constants: " + constants, constants.equals(new TreeSet<>(List.of("INVALID_ARGUMENT",
                "NOT_POSSIBLE", "LIMIT_REACHED", "NOT_FOUND", "STICK", "PATIENCE", "WIND", "WAY"))));
    }

    private static String parameters(Method method) {
        List<String> names = new ArrayList<>();
        for (Class<?> type : method.getParameterTypes()) {
            names.add(type.getName());
        }
        return "(" + String.join(",", names) + ")";
    }

    private static void members() {
        Set<String> faceNames = new TreeSet<>();
        for (Method method : RimGrains.class.getMethods()) {
            faceNames.add(method.getName());
        }
        List<Class<?>> classes = new ArrayList<>(List.of(RimGrains.class.getDeclaredClasses()));
        Check.holds("at most twelve classes", classes.size() + 1 <= 12);
        for (Class<?> inside : classes) {
            Check.holds(inside + " is static", Modifier.isStatic(inside.getModifiers()));
            Check.holds(inside + " is not public", !Modifier.isPublic(inside.getModifiers()));
            for (Method method : inside.getDeclaredMethods()) {
                Check.holds(inside + " has no " + method.getName(), !faceNames.contains(method.getName()));
            }
        }
        classes.add(RimGrains.class);
        for (Class<?> each : classes) {
            int fields = 0;
            for (Field field : each.getDeclaredFields()) {
                fields += Modifier.isStatic(field.getModifiers()) ? 0 : 1;
                Check.holds(field + " is final if static", !Modifier.isStatic(field.getModifiers())
                        || Modifier.isFinal(field.getModifiers()));
            }
            Check.holds(each + " has at most twenty fields", fields <= 20);
            for (Method method : each.getDeclaredMethods()) {
                Check.holds(method + " has at most seven parameters", method.getParameterCount() <= 7);
            }
        }
    }

    private static void text(String source) {
        String code = source.replaceAll("(?s)/\\*.*?\\*/", "").replaceAll("//[^\n]*", "");
        for (String pattern : RULED_OUT) {
            Check.holds("no " + pattern, !Pattern.compile(pattern).matcher(code).find());
        }
        Matcher method = Pattern.compile("(?m)^( {4}| {8})[a-z][^;=\n]*\\) \\{\n(?s:.*?)\n\\1\\}$").matcher(source);
        int methods = 0;
        while (method.find()) {
            methods++;
            String head = method.group().substring(0, method.group().indexOf('\n')).trim();
            Check.holds(head + " is short", method.group().lines().count() <= 60);
            indices(head, method.group());
        }
        Check.holds("methods are found", methods >= FACE.length);
        Check.holds("signs 1 to 127", source.chars().allMatch(c -> c >= 1 && c <= 127));
    }

    /** A number that is not NONE can still be no index: only a look at its range tells. */
    private static void indices(String head, String method) {
        Matcher compared = Pattern.compile("\\b([a-z]\\w*) [!=]= NONE\\b").matcher(method);
        while (compared.find()) {
            String name = compared.group(1);
            Check.holds(head + " looks at the range of " + name, !method.contains("[" + name + "]"));
        }
    }
}
