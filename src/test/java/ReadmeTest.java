import java.io.IOException;
import java.lang.reflect.InvocationTargetException;
import java.lang.reflect.Method;
import java.lang.reflect.Modifier;
import java.nio.file.Files;
import java.nio.file.Path;
import java.util.regex.Matcher;
import java.util.regex.Pattern;

/** README.md's example: every call in it is made, and answers what stands behind it. */
public final class ReadmeTest {
    private static final Pattern CALL = Pattern.compile("bank\\.(\\w+)\\((.*?)\\);\\s*// (\\S+)");

    public static void main(String[] args) throws IOException, ReflectiveOperationException {
        String readme = Files.readString(Path.of("README.md"));
        int start = readme.indexOf("```java");
        int end = readme.indexOf("```", start + 3);
        Check.is("README.md has an example", start >= 0 && end > start, true);
        HoursBank bank = new HoursBank();
        int calls = 0;
        for (String line : readme.substring(Math.max(0, start), Math.max(0, end)).split("\n")) {
            if (line.startsWith("bank.")) {
                Matcher call = CALL.matcher(line);
                boolean isTold = call.matches();
                Check.is(line + " has an answer behind it", isTold, true);
                if (isTold) {
                    Check.is(line, made(bank, call.group(1), call.group(2)).equals(call.group(3)), true);
                    calls++;
                }
            }
        }
        Check.is("calls in the example", calls > 0, true);
        everyMethodIsNamed(readme);
        Check.finish();
    }

    private static String made(HoursBank bank, String name, String arguments) throws ReflectiveOperationException {
        for (Method method : HoursBank.class.getMethods()) {
            if (method.getName().equals(name)) {
                return String.valueOf(invoke(bank, method, arguments.isEmpty() ? new String[0] : arguments.split(", ")));
            }
        }
        return "no such method";
    }

    private static Object invoke(HoursBank bank, Method method, String[] words) throws ReflectiveOperationException {
        Object[] values = new Object[words.length];
        for (int i = 0; i < words.length; i++) {
            boolean isTruth = words[i].equals("true") || words[i].equals("false");
            values[i] = isTruth ? (Object) Boolean.valueOf(words[i]) : (Object) Integer.decode(words[i]);
        }
        try {
            return method.invoke(bank, values);
        } catch (InvocationTargetException e) {
            return "throws." + e.getCause().getClass().getSimpleName();
        }
    }

    private static void everyMethodIsNamed(String readme) {
        for (Method method : HoursBank.class.getDeclaredMethods()) {
            boolean isFace = Modifier.isPublic(method.getModifiers());
            Check.is("README.md names " + method.getName(), !isFace || readme.contains(method.getName() + "("), true);
        }
    }
}
