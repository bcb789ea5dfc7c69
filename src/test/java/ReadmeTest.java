import java.lang.reflect.Method;
import java.nio.file.Files;
import java.nio.file.Path;
import java.util.regex.Matcher;
import java.util.regex.Pattern;

/** The calls that README.md shows answer what it says of them. */
public final class ReadmeTest {
    private static final Pattern PUT = Pattern.compile("put\\(x, (\\d+), \"(.*)\"\\);");
    private static final Pattern CALL = Pattern.compile("x\\.(\\w+)\\(([^)]*)\\); *// (-?\\d+)\\b.*");

    public static void main(String[] args) throws Exception {
        Desk desk = new Desk();
        int calls = 0;
        for (String line : Files.readAllLines(Path.of("README.md"))) {
            Matcher put = PUT.matcher(line);
            Matcher call = CALL.matcher(line);
            if (put.matches()) {
                desk.putFile(Integer.parseInt(put.group(1)), put.group(2).replace("\\n", "\n"));
            } else if (call.matches()) {
                calls++;
                Desk.due("README.md: " + line, answer(desk.x, call.group(1), call.group(2)), Integer.parseInt(call.group(3)));
            } else {
                Desk.due("README.md: a call without an answer: " + line, line.startsWith("x.") ? 1 : 0, 0);
            }
        }
        Desk.due("README.md shows calls", calls >= 10 ? 1 : 0, 1);
        Desk.end();
    }

    private static int answer(JobText x, String name, String told) throws ReflectiveOperationException {
        String[] numbers = told.isEmpty() ? new String[0] : told.split(", ");
        Class<?>[] types = new Class<?>[numbers.length];
        Object[] arguments = new Object[numbers.length];
        for (int i = 0; i < numbers.length; i++) {
            types[i] = int.class;
            arguments[i] = Integer.parseInt(numbers[i]);
        }
        Method method = JobText.class.getMethod(name, types);
        return (int) method.invoke(x, arguments);
    }
}
