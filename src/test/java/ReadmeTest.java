import java.io.IOException;
import java.lang.reflect.Method;
import java.lang.reflect.Modifier;
import java.nio.file.Files;
import java.nio.file.Path;
import java.util.regex.Matcher;
import java.util.regex.Pattern;

/** README.md's lines of use give the answers that stand behind them, and it names the whole face. */
public final class ReadmeTest {
    private static final Pattern CALL = Pattern.compile("net\\.(\\w+)\\(([^)]*)\\);\\s*// (-?\\d+)( .*)?");
    private static final Due due = new Due();

    public static void main(String[] args) throws IOException, ReflectiveOperationException {
        String text = Files.readString(Path.of("README.md"));
        lines(text);
        names(text);
        due.end();
    }

    private static void lines(String text) throws ReflectiveOperationException {
        due.part("README's lines");
        int begin = text.indexOf("```java\n");
        int end = text.indexOf("\n```", begin + 1);
        due.isTrue("a block of java stands there", begin >= 0 && end > begin);
        if (begin < 0 || end < begin) {
            return;
        }
        String[] lines = text.substring(begin, end).split("\n");
        due.isTrue("it begins with a new object", lines[1].equals("NewsFlood net = new NewsFlood();"));
        NewsFlood net = new NewsFlood();
        for (int i = 2; i < lines.length; i++) {
            Matcher call = CALL.matcher(lines[i]);
            boolean readable = call.matches();
            due.isTrue("a call with its answer: " + lines[i], readable);
            if (readable) {
                due.is(lines[i], answer(net, call.group(1), call.group(2)), Long.parseLong(call.group(3)));
            }
        }
    }

    private static long answer(NewsFlood net, String name, String arguments) throws ReflectiveOperationException {
        String[] texts = arguments.isEmpty() ? new String[0] : arguments.split(", ");
        Class<?>[] types = new Class<?>[texts.length];
        Object[] values = new Object[texts.length];
        for (int i = 0; i < texts.length; i++) {
            types[i] = int.class;
            values[i] = Integer.valueOf(texts[i]);
        }
        return ((Number) NewsFlood.class.getMethod(name, types).invoke(net, values)).longValue();
    }

    private static void names(String text) {
        due.part("README's table");
        for (Method method : NewsFlood.class.getDeclaredMethods()) {
            if (Modifier.isPublic(method.getModifiers())) {
                due.isTrue(method.getName() + " is named", text.contains("`" + method.getName() + "`"));
            }
        }
    }
}
