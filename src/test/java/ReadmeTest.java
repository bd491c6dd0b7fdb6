import java.io.IOException;
import java.lang.reflect.Method;
import java.lang.reflect.Modifier;
import java.nio.file.Files;
import java.nio.file.Path;
import java.util.regex.Matcher;
import java.util.regex.Pattern;

/** README.md tells the truth: its examples answer what it says they do, and it names every call of the face. */
public final class ReadmeTest {
    private static final Pattern CALL = Pattern.compile("x\\.(\\w+)\\(([^)]*)\\); +// (-?\\d+|true|false)(:.*)?");
    private static final Pattern TEXT = Pattern.compile("put\\(x, \"([^\"]*)\"\\);");
    private static int wrong = 0;
    private static int calls = 0;
    private static UnreadScript x = null;

    private static void require(boolean holds, String what) {
        if (!holds) {
            wrong++;
            System.out.println("README.md: " + what);
        }
    }

    public static void main(String[] args) throws IOException, ReflectiveOperationException {
        String readme = Files.readString(Path.of("README.md"));
        boolean inside = false;
        for (String line : readme.split("\n")) {
            if (line.startsWith("```")) inside = line.equals("```java");
            else if (inside) take(line);
        }
        for (Method m : UnreadScript.class.getDeclaredMethods()) {
            if (Modifier.isPublic(m.getModifiers())) require(readme.contains("`" + m.getName() + "`"), m.getName() + " is not named");
        }
        require(calls >= 40, "only " + calls + " calls have answers");
        System.out.println(wrong == 0 ? "README.md is right in " + calls + " calls" : wrong + " things are not as due");
        if (wrong != 0) System.exit(1);
    }

    private static void take(String line) throws ReflectiveOperationException {
        Matcher call = CALL.matcher(line);
        Matcher text = TEXT.matcher(line);
        if (call.matches()) {
            calls++;
            String answer = answer(call.group(1), call.group(2));
            require(answer.equals(call.group(3)), line + " answers " + answer);
        } else if (text.matches()) {
            put(x, text.group(1));
        } else if (line.equals("UnreadScript x = new UnreadScript();")) {
            x = new UnreadScript();
        } else {
            require(!line.startsWith("x."), "an example without its answer: " + line);
        }
    }

    private static String answer(String name, String arguments) throws ReflectiveOperationException {
        String[] given = arguments.isEmpty() ? new String[0] : arguments.split(", ");
        for (Method m : UnreadScript.class.getDeclaredMethods()) {
            if (!m.getName().equals(name) || !Modifier.isPublic(m.getModifiers())) continue;
            Class<?>[] types = m.getParameterTypes();
            if (types.length != given.length) break;
            Object[] values = new Object[given.length];
            for (int i = 0; i < given.length; i++) {
                values[i] = types[i] == boolean.class ? (Object) Boolean.valueOf(given[i]) : (Object) Integer.valueOf(given[i]);
            }
            return String.valueOf(m.invoke(x, values));
        }
        return "nothing: there is no such call";
    }

    /** As README.md shows it. */
    private static void put(UnreadScript x, String text) {
        x.end(0);
        for (int from = 0; from < text.length(); from += 20) {
            int[] n = new int[5];
            for (int i = 0; i < 20; i++) {
                int at = from + i;
                n[i / 4] = n[i / 4] << 8 | (at < text.length() ? text.charAt(at) : ' ');
            }
            x.feed(n[0], n[1], n[2], n[3], n[4]);
        }
        x.end(text.length());
    }
}
