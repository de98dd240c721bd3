import java.io.IOException;
import java.lang.reflect.Method;
import java.lang.reflect.Modifier;
import java.nio.file.Files;
import java.nio.file.Path;
import java.util.regex.Matcher;
import java.util.regex.Pattern;

/** The example of README.md answers as it says there; the folder of README.md may be told. */
final class ReadmeTest {
    private static final Pattern CALL = Pattern.compile("x\\.(\\w+)\\(([^)]*)\\);\\s+// (-?\\d+)\\b.*");
    private static final int CALLS_OF_THE_EXAMPLE = 32;
    private static final Expect expect = new Expect("ReadmeTest");

    public static void main(String[] args) throws IOException, ReflectiveOperationException {
        Path folder = Path.of(args.length > 0 ? args[0] : ".");
        HouseHours x = new HouseHours();
        int calls = 0;
        for (String line : Files.readAllLines(folder.resolve("README.md"))) {
            Matcher call = CALL.matcher(line);
            if (call.matches()) {
                calls++;
                expect.due(line, answer(x, call.group(1), call.group(2)), Long.parseLong(call.group(3)));
            }
        }
        expect.due("calls of the example", calls, CALLS_OF_THE_EXAMPLE);
        everyCallIsTold(Files.readString(folder.resolve("README.md")));
        expect.end();
    }

    private static long answer(HouseHours x, String name, String told) throws ReflectiveOperationException {
        String[] numbers = told.isEmpty() ? new String[0] : told.split(", ");
        Method method = named(name);
        Object[] arguments = new Object[numbers.length];
        for (int i = 0; i < numbers.length; i++) {
            long number = Long.decode(numbers[i].replace("L", ""));
            boolean isLong = method.getParameterTypes()[i] == long.class;
            arguments[i] = isLong ? (Object) number : (Object) Math.toIntExact(number);
        }
        return ((Number) method.invoke(x, arguments)).longValue();
    }

    private static Method named(String name) throws NoSuchMethodException {
        for (Method method : HouseHours.class.getMethods()) {
            if (method.getName().equals(name)) {
                return method;
            }
        }
        throw new NoSuchMethodException(name);
    }

    private static void everyCallIsTold(String page) {
        for (Method method : HouseHours.class.getDeclaredMethods()) {
            if (Modifier.isPublic(method.getModifiers())) {
                expect.due(method.getName() + " is told", page.contains("`" + method.getName() + "(") ? 1 : 0, 1);
            }
        }
    }
}
