import java.lang.reflect.Method;
import java.lang.reflect.Modifier;
import java.nio.file.Files;
import java.nio.file.Path;
import java.util.List;
import java.util.regex.Matcher;
import java.util.regex.Pattern;

/** README.md says how to use the class: its example answers as it tells, and it names every call. */
public final class ReadmeTest {
    private static final Check CHECK = new Check("ReadmeTest");
    private static final Pattern CALL = Pattern.compile("mender\\.(\\w+)\\((.*)\\); +// (-?\\w+)(:.*)?");

    public static void main(String[] args) throws Exception {
        List<String> lines = Files.readAllLines(Path.of("README.md"));
        int from = lines.indexOf("```java");
        CHECK.holds("there is an example", from >= 0 && lines.get(from + 1).equals("PageMender mender = new PageMender();"));
        PageMender mender = new PageMender();
        for (int at = from + 2; !lines.get(at).equals("```"); at++) {
            play(mender, lines.get(at));
        }
        namesEveryCall(String.join("\n", lines));
        CHECK.end();
    }

    private static void play(PageMender mender, String line) throws Exception {
        Matcher call = CALL.matcher(line);
        boolean told = call.matches();
        CHECK.holds("a call with its answer: " + line, told);
        if (told) {
            int answer = answerOf(mender, call.group(1), call.group(2).split(", "));
            CHECK.due(line, answer, number(call.group(3)));
        }
    }

    private static int answerOf(PageMender mender, String name, String[] texts) throws Exception {
        for (Method method : PageMender.class.getMethods()) {
            if (method.getName().equals(name)) {
                Class<?>[] types = method.getParameterTypes();
                Object[] values = new Object[types.length];
                for (int i = 0; i < types.length; i++) {
                    values[i] = value(types[i], texts[i]);
                }
                return (Integer) method.invoke(mender, values);
            }
        }
        throw new IllegalArgumentException("no call has the name " + name);
    }

    private static Object value(Class<?> type, String text) throws Exception {
        if (type == boolean.class) {
            return Boolean.valueOf(text);
        }
        return type == long.class ? (Object) Long.valueOf(text) : (Object) Integer.valueOf(number(text));
    }

    private static int number(String text) throws Exception {
        boolean named = Character.isUpperCase(text.charAt(0));
        return named ? PageMender.class.getField(text).getInt(null) : Integer.parseInt(text);
    }

    private static void namesEveryCall(String text) {
        for (Method method : PageMender.class.getDeclaredMethods()) {
            String name = method.getName();
            boolean named = text.contains("`" + name + "`");
            CHECK.holds(name + " is named", named || Modifier.isPrivate(method.getModifiers()));
        }
        for (String name : new String[] {"`NONE` (-1", "`BAD` (-2", "`CLOSED` (-3", "`LOST` (-4"}) {
            CHECK.holds(name + " is named", text.contains(name));
        }
    }
}
