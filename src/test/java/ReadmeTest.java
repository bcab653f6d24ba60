import java.io.IOException;
import java.lang.reflect.Method;
import java.lang.reflect.Modifier;
import java.nio.file.Files;
import java.nio.file.Path;
import java.util.regex.Matcher;
import java.util.regex.Pattern;

/** README.md tells no tales: each call of its example answers what stands behind it, and no call goes untold. */
public final class ReadmeTest {
    private static final Pattern CALL = Pattern.compile("dance\\.(\\w+)\\((.*)\\); +// ([-\\w]+): .*");

    public static void main(String[] arguments) throws IOException, ReflectiveOperationException {
        Checks checks = new Checks("ReadmeTest");
        NineDancers dance = new NineDancers();
        String readme = Files.readString(Path.of("README.md"));
        for (String line : readme.split("\n")) {
            Matcher matcher = CALL.matcher(line);
            if (matcher.matches()) {
                checks.due(line, answer(dance, matcher.group(1), matcher.group(2)), value(matcher.group(3)));
            } else {
                checks.holds("a call can be told from: " + line, !line.startsWith("dance."));
            }
        }
        for (Method method : NineDancers.class.getDeclaredMethods()) {
            boolean isPublic = Modifier.isPublic(method.getModifiers());
            checks.holds("told: " + method.getName(), !isPublic || readme.contains("`" + method.getName() + "`"));
        }
        checks.finish();
    }

    private static long answer(NineDancers dance, String name, String list) throws ReflectiveOperationException {
        String[] texts = list.isEmpty() ? new String[0] : list.split(", ");
        for (Method method : NineDancers.class.getMethods()) {
            if (method.getName().equals(name) && method.getParameterCount() == texts.length) {
                Object[] values = new Object[texts.length];
                for (int at = 0; at < texts.length; at++) {
                    values[at] = argument(method.getParameterTypes()[at], texts[at]);
                }
                return (int) method.invoke(dance, values);
            }
        }
        throw new NoSuchMethodException(name);
    }

    private static Object argument(Class<?> type, String text) throws ReflectiveOperationException {
        if (type == boolean.class) {
            return Boolean.valueOf(text);
        }
        if (type == long.class) {
            return Long.decode(text.replace("L", ""));
        }
        return (int) value(text.replace("NineDancers.", ""));
    }

    private static long value(String text) throws ReflectiveOperationException {
        boolean isName = Character.isLetter(text.charAt(0));
        return isName ? NineDancers.class.getField(text).getInt(null) : Long.parseLong(text);
    }
}
