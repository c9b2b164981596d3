import java.io.IOException;
import java.lang.reflect.InvocationTargetException;
import java.lang.reflect.Method;
import java.lang.reflect.Modifier;
import java.nio.file.Files;
import java.nio.file.Path;
import java.util.Arrays;
import java.util.List;
import java.util.regex.Matcher;
import java.util.regex.Pattern;
import java.util.stream.Collectors;
import java.util.stream.Stream;

/** README.md: its calls answer what it says, and it leaves out no call, status or test. */
public final class ReadmeTest {
    private static final Pattern CALL = Pattern.compile("x\\.(\\w+)\\(([-0-9, ]*)\\);\\s*// (-?[0-9]+)");
    private static final int[] STATUSES = {0, 1, 2, 3, 10, 11, 12, 13, 14, 15};

    private ReadmeTest() {
    }

    public static void main(String[] args) throws IOException, ReflectiveOperationException {
        String text = Files.readString(Path.of("README.md"));
        callsAnswerAsWritten(text);
        allCallsAreNamed(text);
        allStatusesAreTold(text);
        allTestsAreNamed(text);
        Due.end();
    }

    private static void callsAnswerAsWritten(String text) throws ReflectiveOperationException {
        HalfOrders x = new HalfOrders();
        Matcher call = CALL.matcher(text);
        int found = 0;
        while (call.find()) {
            found++;
            String name = call.group(1);
            Object[] numbers = numbersOf(call.group(2));
            Due.due(call.group(), run(x, name, numbers), Long.parseLong(call.group(3)));
        }
        Due.due("calls that are not read as calls", text.split("\nx\\.", -1).length - 1, found);
    }

    private static long run(HalfOrders x, String name, Object[] numbers)
            throws NoSuchMethodException, IllegalAccessException, InvocationTargetException {
        Class<?>[] types = new Class<?>[numbers.length];
        Arrays.fill(types, int.class);
        return ((Number) HalfOrders.class.getMethod(name, types).invoke(x, numbers)).longValue();
    }

    private static Object[] numbersOf(String list) {
        return list.isBlank() ? new Object[0]
            : Stream.of(list.split(",")).map(number -> Integer.valueOf(number.trim())).toArray();
    }

    private static void allCallsAreNamed(String text) {
        for (Method method : HalfOrders.class.getDeclaredMethods()) {
            if (Modifier.isPublic(method.getModifiers())) {
                Due.due("named: " + method, text.contains("`" + method.getName() + "`") ? 1 : 0, 1);
            }
        }
    }

    private static void allStatusesAreTold(String text) {
        for (int status : STATUSES) {
            Due.due("told: status " + status, text.contains("\n| " + status + " | ") ? 1 : 0, 1);
        }
    }

    private static void allTestsAreNamed(String text) throws IOException {
        for (String name : testNames()) {
            Due.due("named: " + name, text.contains("`" + name + "`") ? 1 : 0, 1);
        }
    }

    private static List<String> testNames() throws IOException {
        try (Stream<Path> files = Files.list(Path.of("src/test/java"))) {
            return files.map(file -> file.getFileName().toString())
                .filter(name -> name.endsWith("Test.java"))
                .map(name -> name.substring(0, name.length() - ".java".length()))
                .collect(Collectors.toList());
        }
    }
}
