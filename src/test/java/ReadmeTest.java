import java.lang.reflect.Method;
import java.lang.reflect.Modifier;
import java.nio.file.Files;
import java.nio.file.Path;
import java.util.regex.Matcher;
import java.util.regex.Pattern;

/** README.md's examples: each call answers what stands behind it; and every call of the face is named. */
public final class ReadmeTest {
    private static final Pattern CALL = Pattern.compile("x\\.(\\w+)\\((.*)\\); +// (-?\\d+)(: .*)?");
    private static final String MAKES = "WhoeverHeard x = new WhoeverHeard();";

    public static void main(String[] args) throws Exception {
        String text = Files.readString(Path.of("README.md"));
        int blocks = 0;
        Matcher block = Pattern.compile("(?s)```java\n(.*?)```").matcher(text);
        while (block.find()) {
            blocks++;
            example(block.group(1));
        }
        Due.due("there are examples", blocks > 0 ? 1 : 0, 1);
        for (Method m : WhoeverHeard.class.getDeclaredMethods()) {
            if (Modifier.isPublic(m.getModifiers())) {
                Due.due("README.md names " + m.getName(), text.contains("`" + m.getName() + "`") ? 1 : 0, 1);
            }
        }
        Due.end();
    }

    private static void example(String lines) throws Exception {
        WhoeverHeard x = null;
        for (String line : lines.split("\n")) {
            Matcher call = CALL.matcher(line);
            if (line.equals(MAKES)) {
                x = new WhoeverHeard();
            } else if (x == null || !call.matches()) {
                Due.due("README.md: no call is read in " + line, 0, 1);
            } else {
                Due.due("README.md: " + line, answer(x, call.group(1), call.group(2)), Long.parseLong(call.group(3)));
            }
        }
    }

    private static long answer(WhoeverHeard x, String name, String list) throws Exception {
        String[] words = list.isEmpty() ? new String[0] : list.split(", ");
        Class<?>[] types = new Class<?>[words.length];
        Object[] numbers = new Object[words.length];
        for (int i = 0; i < words.length; i++) {
            types[i] = int.class;
            numbers[i] = words[i].startsWith("'") ? words[i].charAt(1) : Integer.parseInt(words[i]);
        }
        return ((Number) WhoeverHeard.class.getMethod(name, types).invoke(x, numbers)).longValue();
    }
}
