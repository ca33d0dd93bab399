import java.io.IOException;
import java.lang.reflect.InvocationTargetException;
import java.lang.reflect.Method;
import java.lang.reflect.Modifier;
import java.nio.file.Files;
import java.nio.file.Path;
import java.util.regex.Matcher;
import java.util.regex.Pattern;

/** README.md names every call, and its examples, each block on a new bank, answer what it says. */
public final class ReadmeTest {
    private static final Pattern TEXT = Pattern.compile("feed\\(\"(.*)\"\\);");
    private static final Pattern CALL = Pattern.compile("bank\\.(\\w+)\\((.*)\\); +// (?:throws )?([-\\w]+).*");
    private static final int EXAMPLES = 18;

    private static PainBank bank = new PainBank();
    private static int examples = 0;

    public static void main(String[] args) throws IOException, IllegalAccessException {
        String page = Files.readString(Path.of("README.md"));
        for (String line : page.split("\n")) {
            read(line);
        }
        Check.due("examples", examples, EXAMPLES);
        for (Method method : PainBank.class.getDeclaredMethods()) {
            if (Modifier.isPublic(method.getModifiers())) {
                Check.due("README names " + method.getName(), page.contains("`" + method.getName() + "("), true);
            }
        }
        Check.finish();
    }

    private static void read(String line) throws IllegalAccessException {
        Matcher text = TEXT.matcher(line);
        Matcher call = CALL.matcher(line);
        if (line.startsWith("```")) {
            bank = new PainBank();
        } else if (text.matches()) {
            Check.feed(bank, text.group(1));
        } else if (call.matches()) {
            examples++;
            String got = answer(call.group(1), call.group(2));
            Check.due("README: " + line + ": it is " + got, got.equals(call.group(3)), true);
        }
    }

    private static String answer(String name, String numbers) throws IllegalAccessException {
        String[] parts = numbers.isEmpty() ? new String[0] : numbers.split(", ");
        for (Method method : PainBank.class.getDeclaredMethods()) {
            if (method.getName().equals(name) && method.getParameterCount() == parts.length) {
                Object[] values = new Object[parts.length];
                for (int i = 0; i < parts.length; i++) {
                    values[i] = method.getParameterTypes()[i] == int.class ? (Object) Integer.decode(parts[i]) : Boolean.valueOf(parts[i]);
                }
                try {
                    return String.valueOf(method.invoke(bank, values));
                } catch (InvocationTargetException e) {
                    return e.getCause().getClass().getSimpleName();
                }
            }
        }
        return "no such call";
    }
}
