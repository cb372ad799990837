import java.lang.reflect.Method;
import java.nio.file.Files;
import java.nio.file.Path;
import java.util.Set;
import java.util.TreeSet;
import java.util.regex.Matcher;
import java.util.regex.Pattern;

/** Makes the calls of README.md's example, in their order, and looks for the answers that stand behind them. */
public final class ReadmeTests {
    private static final Pattern TEXT = Pattern.compile("for \\(char letter : \"(\\w+)\"\\.toCharArray\\(\\)\\) x\\.write\\(letter\\);");
    private static final Pattern CALL = Pattern.compile("x\\.(\\w+)\\(([^)]*)\\);\\s*// (-?\\d+):.*");
    private static final Check CHECK = new Check();

    public static void main(String[] args) throws Exception {
        String page = Files.readString(Path.of("README.md"));
        Matcher block = Pattern.compile("```java\n(.*?)```", Pattern.DOTALL).matcher(page);
        CHECK.due("examples in README.md", 1, block.find() ? 1 : 0);
        BellSeconds x = new BellSeconds();
        Set<String> unsaid = new TreeSet<>();
        for (Method m : BellSeconds.class.getDeclaredMethods()) {
            if (java.lang.reflect.Modifier.isPublic(m.getModifiers())) unsaid.add(m.getName());
        }
        for (String line : block.group(1).split("\n")) {
            CHECK.words("README.md: " + line);
            Matcher text = TEXT.matcher(line);
            Matcher call = CALL.matcher(line);
            if (text.matches()) {
                Check.tell(x, text.group(1));
                unsaid.remove("write");
            } else if (call.matches()) {
                CHECK.due(call.group(1), Long.parseLong(call.group(3)), answer(x, call.group(1), call.group(2)));
                unsaid.remove(call.group(1));
            } else {
                CHECK.due("a line that is a call", 1, line.isEmpty() || line.equals("BellSeconds x = new BellSeconds();") ? 1 : 0);
            }
        }
        CHECK.words("README.md shows each call but those that only look at one thing, or empty one");
        CHECK.due("calls that it does not show: " + unsaid, 1, unsaid.equals(Set.of("bell", "wipe", "unhear")) ? 1 : 0);
        CHECK.end();
    }

    private static long answer(BellSeconds x, String name, String given) throws Exception {
        for (Method m : BellSeconds.class.getMethods()) {
            if (!m.getName().equals(name)) continue;
            Class<?>[] types = m.getParameterTypes();
            String[] parts = given.isEmpty() ? new String[0] : given.split(", ");
            Object[] values = new Object[types.length];
            for (int i = 0; i < types.length; i++) values[i] = value(types[i], parts[i]);
            return ((Number) m.invoke(x, values)).longValue();
        }
        throw new IllegalArgumentException("no such call: " + name);
    }

    private static Object value(Class<?> type, String told) {
        if (type == boolean.class) return Boolean.valueOf(told);
        return type == long.class ? (Object) Long.valueOf(told) : (Object) Integer.valueOf(told);
    }
}
