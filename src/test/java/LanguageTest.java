import java.io.IOException;
import java.lang.reflect.Constructor;
import java.lang.reflect.Executable;
import java.lang.reflect.Field;
import java.lang.reflect.Member;
import java.lang.reflect.Method;
import java.lang.reflect.Modifier;
import java.nio.file.Files;
import java.nio.file.Path;
import java.util.Arrays;
import java.util.Set;
import java.util.TreeSet;
import java.util.regex.Matcher;
import java.util.regex.Pattern;

/** The public face, and those rules of LANGUAGE.md that can be seen from the class and its text. */
public final class LanguageTest {
    private static final Checks checks = new Checks();
    private static final Path SOURCE = Path.of("src", "main", "java", "PartSketch.java");
    private static final String OUT = "java.lang.IndexOutOfBoundsException";
    private static final String ARGUMENT = "java.lang.IllegalArgumentException";
    private static final String STATE = "java.lang.IllegalStateException";

    /** Each method of the document: what it answers, its name, its number of ints, what it throws. */
    private static final String[] FACE = {
        row("int", "point", 2, ARGUMENT, STATE),
        row("void", "hint", 3, OUT, ARGUMENT),
        row("int", "wish", 4, ARGUMENT, OUT, STATE),
        row("int", "remove", 1, OUT),
        row("int", "type", 2, OUT, STATE, ARGUMENT),
        row("int", "state", 1, OUT),
        row("int", "wishes", 0),
        row("int", "freedom", 0),
        row("int", "x", 1, OUT),
        row("int", "y", 1, OUT),
        row("int", "tell", 3, ARGUMENT, OUT, STATE),
        row("int", "choose", 1, ARGUMENT),
        row("boolean", "setBase", 3, OUT, ARGUMENT),
        row("int", "pocket", 4, OUT, ARGUMENT, STATE),
        row("boolean", "fails", 1, OUT),
        row("int", "volume", 0),
        row("int", "price", 0),
    };

    private static final String[] FORBIDDEN = {
        "\\bimport\\b", "\\bpackage\\b", "->", "::", "\\btry\\b", "\\bcatch\\b", "\\bfinally\\b",
        "\\bassert\\b", "\\bsynchronized\\b", "\\bstatic\\s*\\{", "Exact\\b", "\\bequals\\b",
        "\\bhashCode\\b", "\\btoString\\b", "\\bprotected\\b", "[^\\x00-\\x7e]",
        "\\bwhile \\(true\\)", ";\\s*;", "\"\\s*\\+", "\\+\\s*\"",
    };

    /** What the class calls of the library, out of what rule 4 lists; one more has to be looked up there. */
    private static final Set<String> LIBRARY =
            Set.of("Math.min", "Math.max", "Long.bitCount", "System.arraycopy");

    public static void main(String[] args) throws IOException {
        faceStands();
        nothingElseIsSeen();
        classesKeepTheRules();
        String text = bare(Files.readString(SOURCE));
        for (String forbidden : FORBIDDEN) {
            checks.no("the text holds " + forbidden, Pattern.compile(forbidden).matcher(text).find());
        }
        onlyTheLibraryThatIsListed(text);
        throwsOnlyOfTheFace(text);
        methodsAreShort(text);
        checks.end();
    }

    private static String row(String answer, String name, int ints, String... thrown) {
        return answer + " " + name + " " + ints + " " + Arrays.toString(thrown);
    }

    private static String rowOf(Method method) {
        String[] thrown = new String[method.getExceptionTypes().length];
        for (int i = 0; i < thrown.length; i++) {
            thrown[i] = method.getExceptionTypes()[i].getName();
        }
        return row(method.getReturnType().getName(), method.getName(), method.getParameterCount(), thrown);
    }

    private static void faceStands() {
        Set<String> got = new TreeSet<>();
        for (Method method : PartSketch.class.getDeclaredMethods()) {
            if (Modifier.isPublic(method.getModifiers())) {
                got.add(rowOf(method));
                for (Class<?> type : method.getParameterTypes()) {
                    checks.yes(method.getName() + " takes ints", type == int.class);
                }
            }
        }
        Set<String> due = new TreeSet<>(Arrays.asList(FACE));
        checks.yes("public methods " + got + ", due are " + due, got.equals(due));
        checks.same("constructors", PartSketch.class.getConstructors().length, 1);
        checks.yes("the class is public and final",
                PartSketch.class.getModifiers() == (Modifier.PUBLIC | Modifier.FINAL));
        checks.same("public fields", PartSketch.class.getFields().length, 3);
    }

    private static void nothingElseIsSeen() {
        Set<String> names = new TreeSet<>();
        for (Method method : PartSketch.class.getDeclaredMethods()) {
            if (Modifier.isPublic(method.getModifiers())) {
                names.add(method.getName());
            }
        }
        for (Method method : PartSketch.class.getDeclaredMethods()) {
            seenOrPrivate(method);
            checks.yes(method + " bears a public name",
                    Modifier.isPublic(method.getModifiers()) || !names.contains(method.getName()));
        }
        for (Field field : PartSketch.class.getDeclaredFields()) {
            seenOrPrivate(field);
        }
        for (Constructor<?> constructor : PartSketch.class.getDeclaredConstructors()) {
            seenOrPrivate(constructor);
        }
    }

    private static void seenOrPrivate(Member member) {
        int seen = member.getModifiers() & (Modifier.PUBLIC | Modifier.PRIVATE);
        checks.yes(member + " is neither public nor private", seen != 0);
    }

    private static void classesKeepTheRules() {
        Class<?>[] inside = PartSketch.class.getDeclaredClasses();
        checks.yes("at most twelve classes", inside.length < 12);
        keepsTheRules(PartSketch.class);
        for (Class<?> each : inside) {
            checks.yes(each + " is static", Modifier.isStatic(each.getModifiers()));
            checks.no(each + " is seen", Modifier.isPublic(each.getModifiers()));
            keepsTheRules(each);
        }
    }

    private static void keepsTheRules(Class<?> each) {
        int fields = 0;
        for (Field field : each.getDeclaredFields()) {
            if (Modifier.isStatic(field.getModifiers())) {
                checks.yes(field + " is final", Modifier.isFinal(field.getModifiers()));
            } else {
                fields++;
            }
        }
        checks.yes(each + " has at most twenty fields", fields <= 20);
        for (Executable method : each.getDeclaredMethods()) {
            checks.yes(method + " takes at most seven", method.getParameterCount() <= 7);
        }
    }

    /** The text without comments and without what stands in strings. */
    private static String bare(String text) {
        String code = text.replaceAll("(?s)/\\*.*?\\*/", "").replaceAll("//[^\n]*", "");
        return code.replaceAll("\"[^\"\n]*\"", "\"\"");
    }

    /** The class calls nothing of its own by the name of a class. */
    private static void onlyTheLibraryThatIsListed(String text) {
        Matcher call = Pattern.compile("\\b[A-Z]\\w*\\.\\w+").matcher(text);
        while (call.find()) {
            checks.yes(call.group() + " is of the library that is listed", LIBRARY.contains(call.group()));
        }
    }

    /** Rule 6: a new exception, with a written text, of a class that a call of the face may throw. */
    private static void throwsOnlyOfTheFace(String text) {
        Set<String> face = Set.of(OUT, ARGUMENT, STATE);
        Matcher thrown = Pattern.compile("\\bthrow\\b([^;]*);").matcher(text);
        Pattern form = Pattern.compile(" new (\\w+)\\(\"\"\\)");
        int found = 0;
        while (thrown.find()) {
            found++;
            Matcher made = form.matcher(thrown.group(1));
            checks.yes("throw" + thrown.group(1) + " is of the form that is due",
                    made.matches() && face.contains("java.lang." + made.group(1)));
        }
        checks.yes("throws were found", found > 0);
    }

    /** A method begins at a line that is indented by one or two levels and ends with a brace. */
    private static void methodsAreShort(String text) {
        Matcher method = Pattern.compile("(?ms)^( {4}| {8})[^ \n}][^\n]*\\(.*?^\\1\\}$").matcher(text);
        int found = 0;
        while (method.find()) {
            found++;
            long lines = method.group().lines().count();
            checks.yes("at most sixty lines: " + method.group().lines().findFirst().orElse(""), lines <= 60);
        }
        checks.yes("methods were found", found >= FACE.length);
    }
}
