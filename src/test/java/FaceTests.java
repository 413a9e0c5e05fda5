import java.lang.reflect.Field;
import java.lang.reflect.Method;
import java.lang.reflect.Modifier;
import java.nio.file.Files;
import java.nio.file.Path;
import java.util.Arrays;
import java.util.List;
import java.util.TreeSet;
import java.util.regex.Matcher;
import java.util.regex.Pattern;

/** The public face of the document, and those rules of LANGUAGE.md that can be read off the class or its text. */
public final class FaceTests {
    private static final List<String> METHODS = List.of(
        "int addNode(int,int)", "int addEdge(int,int,int)", "int kind(int)", "int move(int,int)",
        "int couldResultIn(int,int,int,int)", "int earliest(int,int,int)", "int send(int,int)",
        "int advance(int)", "int close(int)", "int process(int,int,int,int,int)",
        "int deliver(int,int,int,int)", "int receive(int,int)", "int messages(int,int)",
        "int messageTime(int,int,int)", "int requests(int,int)", "int deliverable(int,int)",
        "int count(int,int,int)", "int active(int)", "int frontier(int,int)", "int pending(int)",
        "int delivered()", "int violations()", "int undo()", "int errorCount(int)", "long digest()");
    private static final List<String> CONSTANTS =
        List.of("OUT_OF_RANGE=-2", "NOT_POSSIBLE=-3", "FULL=-4", "NOTHING_SAVED=-5", "NONE=-1");
    private static final String FORBIDDEN =
        "\\b(throw|throws|try|catch|synchronized|assert|volatile|native|package|System\\.(?!arraycopy)\\w+"
        + "|Thread|Random|Object|HashMap|Exception|Error|hashCode|\\w+Exact)\\b|->|::";
    private static final int LONGEST_METHOD = 60;

    private static final Due DUE = new Due("FaceTests");

    public static void main(String[] args) throws Exception {
        constants();
        methods();
        nestedClasses();
        text();
        DUE.end();
    }

    private static void constants() throws Exception {
        TreeSet<String> found = new TreeSet<>();
        for (Field field : ProgressTracker.class.getDeclaredFields()) {
            int modifiers = field.getModifiers();
            if (!Modifier.isPrivate(modifiers)) {
                DUE.holds(field + " is public static final", modifiers == (Modifier.PUBLIC | Modifier.STATIC | Modifier.FINAL));
                found.add(field.getName() + "=" + field.getInt(null));
            }
            DUE.holds(field + ": static fields are final", !Modifier.isStatic(modifiers) || Modifier.isFinal(modifiers));
        }
        DUE.holds("constants are " + found, found.equals(new TreeSet<>(CONSTANTS)));
    }

    private static void methods() {
        Class<?> face = ProgressTracker.class;
        DUE.holds("the class is public and final", face.getModifiers() == (Modifier.PUBLIC | Modifier.FINAL));
        DUE.same("constructors", face.getDeclaredConstructors().length, 1);
        DUE.same("public constructors without arguments", Arrays.stream(face.getConstructors())
                .filter(c -> c.getParameterCount() == 0).count(), 1);
        TreeSet<String> found = new TreeSet<>();
        TreeSet<String> names = new TreeSet<>();
        for (Method method : face.getDeclaredMethods()) {
            if (!Modifier.isPrivate(method.getModifiers())) {
                DUE.holds(method + " is just public", method.getModifiers() == Modifier.PUBLIC);
                found.add(method.getReturnType() + " " + method.getName() + parameters(method));
                names.add(method.getName());
            }
        }
        DUE.holds("methods are " + found, found.equals(new TreeSet<>(METHODS)));
        for (Method method : face.getDeclaredMethods()) {
            DUE.holds(method + " bears the name of a public one",
                    !Modifier.isPrivate(method.getModifiers()) || !names.contains(method.getName()));
            DUE.holds(method + " has at most seven parameters", method.getParameterCount() <= 7);
        }
    }

    private static String parameters(Method method) {
        String all = Arrays.toString(method.getParameterTypes());
        return "(" + all.substring(1, all.length() - 1).replace(" ", "") + ")";
    }

    private static void nestedClasses() {
        Class<?>[] nested = ProgressTracker.class.getDeclaredClasses();
        DUE.holds("at most twelve classes", nested.length <= 11);
        for (Class<?> c : nested) {
            int modifiers = c.getModifiers();
            DUE.holds(c + " is static", Modifier.isStatic(modifiers));
            DUE.holds(c + " is not public", !Modifier.isPublic(modifiers) && !Modifier.isProtected(modifiers));
            long fields = Arrays.stream(c.getDeclaredFields()).filter(f -> !Modifier.isStatic(f.getModifiers())).count();
            DUE.holds(c + " has at most twenty fields", fields <= 20);
        }
    }

    private static void text() throws Exception {
        String text = Files.readString(Path.of("src/main/java/ProgressTracker.java"));
        DUE.holds("only signs 1 to 127", text.chars().allMatch(c -> c > 0 && c < 128));
        String code = text.replaceAll("(?s)/\\*.*?\\*/", "").replaceAll("//[^\n]*", "");
        Matcher forbidden = Pattern.compile(FORBIDDEN).matcher(code);
        while (forbidden.find()) {
            DUE.holds("the text has '" + forbidden.group() + "'", false);
        }
        Matcher imports = Pattern.compile("import ([^;]*);").matcher(code);
        while (imports.find()) {
            DUE.holds("imports " + imports.group(1), imports.group(1).equals("java.util.Arrays"));
        }
        methodLengths(code);
    }

    private static void methodLengths(String code) {
        int start = -1;
        String[] lines = code.split("\n");
        for (int i = 0; i < lines.length; i++) {
            if (lines[i].matches(" {4}( {4})?\\S.*\\) \\{")) {
                start = i;
            }
            if (start >= 0 && lines[i].matches(" {4}( {4})?\\}")) {
                DUE.holds("too long: " + lines[start].trim(), i - start < LONGEST_METHOD);
                start = -1;
            }
        }
    }
}
