import java.io.IOException;
import java.lang.reflect.Constructor;
import java.lang.reflect.Field;
import java.lang.reflect.Method;
import java.lang.reflect.Modifier;
import java.nio.file.Files;
import java.nio.file.Path;
import java.util.Set;
import java.util.TreeSet;
import java.util.regex.Matcher;
import java.util.regex.Pattern;

/** The class has the document's face and nothing else to be seen, and keeps to LANGUAGE.md's plain bans. */
final class FaceTest {
    private static final Path SOURCE = Path.of("src", "main", "java", "BranchGoals.java");
    private static final Set<String> FACE = Set.of(
            "boolean line(int,int,int,int,int)", "int start()", "boolean watched(int)", "boolean depends(int,int)",
            "boolean put(int,int,int,int)", "int run()", "int evolve()", "int finish()", "int found()", "int active()",
            "int reported()", "int length(int)", "int step(int,int,int)", "int covers(int)", "long fitness(int,int)",
            "long result(int,int)", "int runs()", "long state()");
    private static final String[] BANNED = {
        "\\b(throw|throws|try|catch|synchronized|assert|protected)\\b", "->", "::", "\\bpackage\\b",
        "\\b(hashCode|toString|equals)\\b", "Exact\\(", "\\b(double|float)\\b", "\\bstatic\\s*\\{",
    };
    /** Of what LANGUAGE.md's rule 4 lists, the part that the program uses: one more is to be looked up there first. */
    private static final Set<String> LIBRARY = Set.of(
            "Arrays.fill", "Integer.bitCount", "Math.abs", "Math.max", "Math.min", "System.arraycopy");
    private static final Pattern USE_OF_A_CLASS = Pattern.compile("\\b[A-Z]\\w*[a-z]\\w*\\.\\w+");
    private static final Pattern METHOD = Pattern.compile("(?ms)^( {4}| {8})(?! )[^;={}\\n]*\\) \\{\\n.*?^\\1\\}");
    private static final int MOST_METHOD_LINES = 60;
    private static final int MOST_FIELDS = 20;

    private FaceTest() {
    }

    public static void main(String[] args) throws IOException {
        Checks checks = new Checks();
        checkFace(checks);
        checkNestedClasses(checks);
        checkSource(checks);
        checks.end();
    }

    private static void checkFace(Checks checks) {
        int modifiers = BranchGoals.class.getModifiers();
        checks.due("the class is public and final", Modifier.isPublic(modifiers) && Modifier.isFinal(modifiers), true);
        Constructor<?>[] constructors = BranchGoals.class.getDeclaredConstructors();
        checks.due("how many constructors", constructors.length, 1);
        checks.due("the constructor is public", Modifier.isPublic(constructors[0].getModifiers()), true);
        Set<String> seen = new TreeSet<>();
        for (Method method : BranchGoals.class.getDeclaredMethods()) {
            if (!Modifier.isPrivate(method.getModifiers())) {
                seen.add(signature(method));
            }
        }
        checks.due("the methods to be seen are those of the document: " + seen, seen.equals(FACE), true);
        for (Field field : BranchGoals.class.getDeclaredFields()) {
            checks.due("field " + field.getName() + " is private", Modifier.isPrivate(field.getModifiers()), true);
        }
        for (Method method : BranchGoals.class.getDeclaredMethods()) {
            boolean isHidden = Modifier.isPrivate(method.getModifiers());
            checks.due(method + " bears a name of the face", isHidden && isNameOfFace(method), false);
        }
        checkFields(BranchGoals.class, checks);
    }

    private static boolean isNameOfFace(Method method) {
        return FACE.stream().anyMatch(face -> face.contains(" " + method.getName() + "("));
    }

    private static void checkFields(Class<?> type, Checks checks) {
        int count = 0;
        for (Field field : type.getDeclaredFields()) {
            if (Modifier.isStatic(field.getModifiers())) {
                checks.due("static field " + field + " is final", Modifier.isFinal(field.getModifiers()), true);
            } else {
                count++;
            }
        }
        checks.due(type + " has at most some twenty fields", count <= MOST_FIELDS, true);
    }

    private static String signature(Method method) {
        StringBuilder text = new StringBuilder(method.getReturnType() + " " + method.getName() + "(");
        for (Class<?> type : method.getParameterTypes()) {
            text.append(text.charAt(text.length() - 1) == '(' ? "" : ",").append(type);
        }
        return text.append(')').toString();
    }

    private static void checkNestedClasses(Checks checks) {
        Class<?>[] nested = BranchGoals.class.getDeclaredClasses();
        checks.due("at most twelve classes", nested.length + 1 <= 12, true);
        for (Class<?> type : nested) {
            checks.due(type + " is static", Modifier.isStatic(type.getModifiers()), true);
            checks.due(type + " is not public", Modifier.isPublic(type.getModifiers()), false);
            checkFields(type, checks);
            for (Method method : type.getDeclaredMethods()) {
                checks.due(type + "." + method.getName() + " bears a name of the face", isNameOfFace(method), false);
                checks.due(method + " takes at most seven", method.getParameterCount() <= 7, true);
            }
        }
    }

    private static void checkSource(Checks checks) throws IOException {
        String code = Files.readString(SOURCE).replaceAll("(?s)/\\*.*?\\*/", "").replaceAll("//[^\n]*", "");
        for (String banned : BANNED) {
            checks.due("the source holds " + banned, Pattern.compile(banned).matcher(code).find(), false);
        }
        checks.due("all that is imported is java.util.Arrays", code.lines()
                .allMatch(line -> !line.startsWith("import") || line.equals("import java.util.Arrays;")), true);
        String body = code.replaceAll("(?m)^import.*$", "");
        for (Matcher use = USE_OF_A_CLASS.matcher(body); use.find(); ) {
            checks.due("the source uses " + use.group(), LIBRARY.contains(use.group()), true);
        }
        int methods = 0;
        for (Matcher method = METHOD.matcher(body); method.find(); methods++) {
            String text = method.group();
            checks.due(text.lines().findFirst() + " has at most some sixty lines",
                    text.lines().count() <= MOST_METHOD_LINES, true);
        }
        checks.due("the methods that were measured are not fewer than the face", methods >= FACE.size(), true);
    }
}
