import java.io.IOException;
import java.lang.reflect.Constructor;
import java.lang.reflect.Field;
import java.lang.reflect.Method;
import java.lang.reflect.Modifier;
import java.nio.file.Files;
import java.nio.file.Path;
import java.util.Set;
import java.util.TreeSet;

/** The class has the document's face and nothing else to be seen, and keeps to LANGUAGE.md's plain bans. */
final class FaceTest {
    private static final Path SOURCE = Path.of("src", "main", "java", "BranchGoals.java");
    private static final Set<String> FACE = Set.of(
            "boolean line(int,int,int,int,int)", "int start()", "boolean watched(int)", "boolean depends(int,int)",
            "boolean put(int,int,int,int)", "int run()", "int evolve()", "int finish()", "int found()", "int active()",
            "int reported()", "int length(int)", "int step(int,int,int)", "int covers(int)", "long fitness(int,int)",
            "long result(int,int)", "int runs()", "long state()");
    private static final String[] BANNED = {
        "\\b(throw|throws|try|catch|synchronized|assert|protected)\\b", "->", "::", "\\bpackage\\b",
        "\\b(hashCode|toString|equals)\\b", "Exact\\(", "\\b(Random|System\\.(?!arraycopy))\\b",
    };

    private FaceTest() {
    }

    public static void main(String[] args) throws IOException {
        Checks checks = new Checks();
        checkFace(checks);
        checkNestedClasses(checks);
        checkSource(checks);
        checks.end();
    }

    private static void checkFace(Checks checks) {
        int modifiers = BranchGoals.class.getModifiers();
        checks.due("the class is public and final", Modifier.isPublic(modifiers) && Modifier.isFinal(modifiers), true);
        Constructor<?>[] constructors = BranchGoals.class.getDeclaredConstructors();
        checks.due("how many constructors", constructors.length, 1);
        checks.due("the constructor is public", Modifier.isPublic(constructors[0].getModifiers()), true);
        Set<String> seen = new TreeSet<>();
        for (Method method : BranchGoals.class.getDeclaredMethods()) {
            if (!Modifier.isPrivate(method.getModifiers())) {
                seen.add(signature(method));
            }
        }
        checks.due("the methods to be seen are those of the document: " + seen, seen.equals(FACE), true);
        for (Field field : BranchGoals.class.getDeclaredFields()) {
            checks.due("field " + field.getName() + " is private", Modifier.isPrivate(field.getModifiers()), true);
        }
    }

    private static String signature(Method method) {
        StringBuilder text = new StringBuilder(method.getReturnType() + " " + method.getName() + "(");
        for (Class<?> type : method.getParameterTypes()) {
            text.append(text.charAt(text.length() - 1) == '(' ? "" : ",").append(type);
        }
        return text.append(')').toString();
    }

    private static void checkNestedClasses(Checks checks) {
        Class<?>[] nested = BranchGoals.class.getDeclaredClasses();
        checks.due("at most twelve classes", nested.length + 1 <= 12, true);
        for (Class<?> type : nested) {
            checks.due(type + " is static", Modifier.isStatic(type.getModifiers()), true);
            checks.due(type + " is not public", Modifier.isPublic(type.getModifiers()), false);
            for (Method method : type.getDeclaredMethods()) {
                boolean isTaken = FACE.stream().anyMatch(face -> face.contains(" " + method.getName() + "("));
                checks.due(type + "." + method.getName() + " bears a name of the face", isTaken, false);
                checks.due(method + " takes at most seven", method.getParameterCount() <= 7, true);
            }
        }
    }

    private static void checkSource(Checks checks) throws IOException {
        String code = Files.readString(SOURCE).replaceAll("(?s)/\\*.*?\\*/", "").replaceAll("//[^\n]*", "");
        for (String banned : BANNED) {
            checks.due("the source holds " + banned, java.util.regex.Pattern.compile(banned).matcher(code).find(), false);
        }
    }
}
