import java.io.IOException;
import java.lang.reflect.Method;
import java.lang.reflect.Modifier;
import java.nio.file.Files;
import java.nio.file.Path;
import java.util.regex.Matcher;
import java.util.regex.Pattern;

/** README.md: its example answers as it says, and no call of the face is left out. */
final class ReadmeTest {
    private static final Pattern CALL = Pattern.compile("bench\\.(\\w+)\\((.*?)\\); *// (-?\\d+)\\b");
    private static final Pattern LINE = Pattern.compile("(?m)^bench\\.");

    public static void main(String[] args) throws IOException, ReflectiveOperationException {
        String text = Files.readString(Path.of("README.md"));
        example(text.substring(text.indexOf("```java"), text.lastIndexOf("```")));
        for (Method method : SieveBench.class.getDeclaredMethods()) {
            if (Modifier.isPublic(method.getModifiers())) {
                Due.holds(method.getName() + " is told of", text.contains("`" + method.getName() + "`"));
            }
        }
        Due.close();
    }

    private static void example(String code) throws ReflectiveOperationException {
        SieveBench bench = new SieveBench();
        int calls = 0;
        Matcher call = CALL.matcher(code);
        while (call.find()) {
            calls++;
            Due.is(call.group(), Integer.parseInt(call.group(3)), answer(bench, call.group(1), call.group(2)));
        }
        Due.holds("the example has calls", calls > 0);
        Due.is("each of its calls tells its answer", LINE.matcher(code).results().count(), calls);
    }

    private static int answer(SieveBench bench, String name, String written) throws ReflectiveOperationException {
        String[] words = written.isEmpty() ? new String[0] : written.split(", ");
        Class<?>[] types = new Class<?>[words.length];
        Object[] arguments = new Object[words.length];
        for (int place = 0; place < words.length; place++) {
            types[place] = int.class;
            arguments[place] = words[place].startsWith("'") ? words[place].charAt(1) : Integer.parseInt(words[place]);
        }
        return (int) SieveBench.class.getMethod(name, types).invoke(bench, arguments);
    }
}
