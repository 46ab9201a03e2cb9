import java.io.File;
import java.io.IOException;
import java.lang.reflect.InvocationTargetException;
import java.lang.reflect.Method;
import java.lang.reflect.Modifier;
import java.nio.file.Files;
import java.nio.file.Path;
import java.util.regex.Matcher;
import java.util.regex.Pattern;

/** README.md: its examples answer what they tell, and it names each call and each test. */
public final class ReadmeTest {
    private static final Check CHECK = new Check("ReadmeTest");

    private static final Pattern TEXT = Pattern.compile("for \\(char sign : \"([^\"]*)\".*");
    private static final Pattern CALL =
            Pattern.compile("office\\.(\\w+)\\(([^()]*)\\);\\s+// (-?\\d+): .*");

    public static void main(String[] args) throws IOException, ReflectiveOperationException {
        String readme = Files.readString(Path.of("README.md"));
        examples(readme);
        everyCall(readme);
        everyTest(readme);
        CHECK.finish();
    }

    private static void examples(String readme) throws ReflectiveOperationException {
        TicketWindows office = new TicketWindows();
        int calls = 0;
        for (String line : readme.split("\n")) {
            Matcher text = TEXT.matcher(line);
            Matcher call = CALL.matcher(line);
            if (line.startsWith("TicketWindows office = new")) {
                office = new TicketWindows();
            } else if (text.matches()) {
                Check.write(office, text.group(1));
            } else if (call.matches()) {
                calls++;
                CHECK.due(line.trim(), answer(office, call.group(1), call.group(2)),
                        Integer.parseInt(call.group(3)));
            } else {
                CHECK.holds(line + ": a call with its answer", !line.startsWith("office."));
            }
        }
        CHECK.holds("examples: " + calls, calls >= 10);
    }

    private static int answer(TicketWindows office, String name, String arguments)
            throws IllegalAccessException, InvocationTargetException {
        String[] parts = arguments.isEmpty() ? new String[0] : arguments.split(", ");
        for (Method method : TicketWindows.class.getMethods()) {
            if (method.getName().equals(name) && method.getParameterCount() == parts.length) {
                Object[] values = new Object[parts.length];
                for (int i = 0; i < parts.length; i++) {
                    boolean number = method.getParameterTypes()[i] == int.class;
                    values[i] = number ? (Object) Integer.valueOf(parts[i])
                            : Boolean.valueOf(parts[i]);
                }
                return (Integer) method.invoke(office, values);
            }
        }
        CHECK.holds("no call " + name, false);
        return 0;
    }

    private static void everyCall(String readme) {
        for (Method method : TicketWindows.class.getDeclaredMethods()) {
            if (Modifier.isPublic(method.getModifiers())) {
                CHECK.holds("README.md tells of " + method.getName(),
                        readme.contains("| `" + method.getName() + "("));
            }
        }
    }

    private static void everyTest(String readme) {
        String[] files = new File("src/test/java").list();
        CHECK.holds("tests", files != null && files.length > 0);
        for (String file : files == null ? new String[0] : files) {
            String name = file.replace(".java", "");
            CHECK.holds("README.md tells of " + name,
                    !name.endsWith("Test") || readme.contains("| `" + name + "` |"));
        }
    }
}
