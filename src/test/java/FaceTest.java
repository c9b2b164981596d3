import java.io.IOException;
import java.lang.reflect.Constructor;
import java.lang.reflect.Field;
import java.lang.reflect.Method;
import java.lang.reflect.Modifier;
import java.nio.file.Files;
import java.nio.file.Path;
import java.util.Arrays;
import java.util.Set;
import java.util.TreeSet;
import java.util.regex.Matcher;
import java.util.regex.Pattern;

/** The public face of the document, and those rules of LANGUAGE.md that a look at the class can tell. */
public final class FaceTest {
    private static final String[] FACE = {
        "int order 1", "int pair 3", "int round 1", "int stack 2", "int beside 2", "int times 2", "int held 1",
        "int row 1", "int dual 1", "int part 2", "int drop 0", "int told 2", "int count 1", "int below 3",
        "int widest 1", "int of 3", "int low 2", "int rowOut 3", "int before 3", "long places 2", "int fair 1",
        "int two 3", "int invert 3", "int bound 4", "int uneven 1", "int bent 1", "int same 3", "int lay 2",
        "int clear 0", "int hand 1", "int unlike 1", "int act 3", "int trace 1", "int sheet 3", "int cell 3",
        "int pairs 4", "int forge 3", "int status 0"};

    private static final String[] NOT_WRITTEN = {
        "throw", "throws", "try", "catch", "synchronized", "assert", "protected", "new Thread", "import java.util.*",
        "System.out", "Random", "while (true)", "for (;;)", "->", "::", "Exact("};

    private FaceTest() {
    }

    public static void main(String[] args) throws IOException {
        Due.due("NONE", HalfOrders.NONE, -1);
        Due.due("public and final", HalfOrders.class.getModifiers(), Modifier.PUBLIC | Modifier.FINAL);
        methodsAreAsDue();
        fieldsAndConstructorsAreAsDue();
        classesInsideAreStatic();
        sourceKeepsToTheRules();
        Due.end();
    }

    private static void methodsAreAsDue() {
        Set<String> found = new TreeSet<>();
        Set<String> names = new TreeSet<>();
        for (Method method : HalfOrders.class.getDeclaredMethods()) {
            if (Modifier.isPublic(method.getModifiers())) {
                found.add(method.getReturnType() + " " + method.getName() + " " + method.getParameterCount());
                names.add(method.getName());
                for (Class<?> type : method.getParameterTypes()) {
                    Due.due("a number for " + method, type == int.class ? 1 : 0, 1);
                }
            }
        }
        Due.due("the face " + found, found.equals(new TreeSet<>(Arrays.asList(FACE))) ? 1 : 0, 1);
        for (Method method : HalfOrders.class.getDeclaredMethods()) {
            boolean isPublic = Modifier.isPublic(method.getModifiers());
            Due.due("public or private: " + method, isPublic || Modifier.isPrivate(method.getModifiers()) ? 1 : 0, 1);
            Due.due("a name of its own: " + method, !isPublic && names.contains(method.getName()) ? 1 : 0, 0);
        }
        for (Class<?> inside : HalfOrders.class.getDeclaredClasses()) {
            for (Method method : inside.getDeclaredMethods()) {
                Due.due("a name of its own: " + method, names.contains(method.getName()) ? 1 : 0, 0);
                Due.due("few numbers: " + method, method.getParameterCount() <= 7 ? 1 : 0, 1);
            }
        }
    }

    private static void fieldsAndConstructorsAreAsDue() {
        for (Field field : HalfOrders.class.getDeclaredFields()) {
            boolean isNone = field.getName().equals("NONE");
            Due.due("public: " + field, Modifier.isPublic(field.getModifiers()) ? 1 : 0, isNone ? 1 : 0);
            Due.due("private: " + field, Modifier.isPrivate(field.getModifiers()) ? 1 : 0, isNone ? 0 : 1);
        }
        Constructor<?>[] made = HalfOrders.class.getDeclaredConstructors();
        Due.due("one constructor", made.length, 1);
        Due.due("without numbers", made[0].getParameterCount(), 0);
        Due.due("public", made[0].getModifiers(), Modifier.PUBLIC);
    }

    private static void classesInsideAreStatic() {
        Class<?>[] inside = HalfOrders.class.getDeclaredClasses();
        Due.due("few classes", inside.length <= 12 ? 1 : 0, 1);
        for (Class<?> one : inside) {
            Due.due("static: " + one, Modifier.isStatic(one.getModifiers()) ? 1 : 0, 1);
            Due.due("not public: " + one, Modifier.isPublic(one.getModifiers()) ? 1 : 0, 0);
            long fields = Arrays.stream(one.getDeclaredFields()).filter(f -> !Modifier.isStatic(f.getModifiers())).count();
            Due.due("few fields: " + one, fields <= 20 ? 1 : 0, 1);
        }
    }

    private static void sourceKeepsToTheRules() throws IOException {
        String source = Files.readString(Path.of("src/main/java/HalfOrders.java"));
        String code = source.replaceAll("(?s)/\\*.*?\\*/", "").replaceAll("//[^\n]*", "");
        for (String word : NOT_WRITTEN) {
            String asWord = Character.isLetter(word.charAt(0)) ? "\\b" + Pattern.quote(word) : Pattern.quote(word);
            if (Character.isLetter(word.charAt(word.length() - 1))) {
                asWord += "\\b";
            }
            Due.due("written: " + word, Pattern.compile(asWord).matcher(code).find() ? 1 : 0, 0);
        }
        Matcher imports = Pattern.compile("import ([^;]*);").matcher(code);
        while (imports.find()) {
            Due.due("import " + imports.group(1), imports.group(1).equals("java.util.Arrays") ? 1 : 0, 1);
        }
        Due.due("no package", code.contains("package ") ? 1 : 0, 0);
    }
}
