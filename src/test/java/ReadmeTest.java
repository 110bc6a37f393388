import java.io.IOException;
import java.lang.reflect.Method;
import java.lang.reflect.Modifier;
import java.nio.file.DirectoryStream;
import java.nio.file.Files;
import java.nio.file.Path;
import java.util.HashMap;
import java.util.Map;
import java.util.regex.Matcher;
import java.util.regex.Pattern;

/** README.md: its example answers what its comments say, and no call and no test is left out. */
public final class ReadmeTest {
    private static final Pattern EXAMPLE = Pattern.compile("(?s)```java\n(.*?)```");
    private static final Pattern CALL =
        Pattern.compile("(?:int (\\w+) = )?desk\\.(\\w+)\\(([^)]*)\\);\\s*// (-?\\d+|true|false)(?::.*)?");

    public static void main(String[] args) throws IOException, ReflectiveOperationException {
        String readme = Files.readString(Path.of("README.md"));
        Matcher example = EXAMPLE.matcher(readme);
        Check.due("an example", true, example.find());
        String[] lines = example.group(1).split("\n");
        Check.due("the example's first line makes a desk", true, lines[0].equals("GuideDesk desk = new GuideDesk();"));
        run(lines);
        everyCallIsNamed(readme);
        everyTestIsNamed(readme);
        Check.finish();
    }

    /** Every line behind the first one is a remark, or a call with the answer that is due. */
    private static void run(String[] lines) throws ReflectiveOperationException {
        GuideDesk desk = new GuideDesk();
        Map<String, Object> values = new HashMap<>(Map.of("true", true, "false", false));
        for (int i = 1; i < lines.length; i++) {
            Matcher call = CALL.matcher(lines[i]);
            if (call.matches()) {
                Object got = answer(desk, call.group(2), call.group(3), values);
                Check.due(lines[i] + " (" + got + ")", true, got.toString().equals(call.group(4)));
                if (call.group(1) != null) {
                    values.put(call.group(1), got);
                }
            } else {
                Check.due("a remark: " + lines[i], true, lines[i].startsWith("// "));
            }
        }
    }

    private static Object answer(GuideDesk desk, String name, String list, Map<String, Object> values)
            throws ReflectiveOperationException {
        String[] words = list.isEmpty() ? new String[0] : list.split(", ");
        Object[] arguments = new Object[words.length];
        for (int i = 0; i < words.length; i++) {
            arguments[i] = values.containsKey(words[i]) ? values.get(words[i]) : (Object) Long.decode(words[i]).intValue();
        }
        return method(name).invoke(desk, arguments);
    }

    private static Method method(String name) throws NoSuchMethodException {
        for (Method method : GuideDesk.class.getDeclaredMethods()) {
            if (method.getName().equals(name) && Modifier.isPublic(method.getModifiers())) {
                return method;
            }
        }
        throw new NoSuchMethodException(name);
    }

    private static void everyCallIsNamed(String readme) {
        for (Method method : GuideDesk.class.getDeclaredMethods()) {
            if (Modifier.isPublic(method.getModifiers())) {
                Matcher named = Pattern.compile("`" + method.getName() + "\\(([^)]*)\\)`").matcher(readme);
                boolean isNamed = named.find();
                Check.due(method.getName() + " is named", true, isNamed);
                int words = !isNamed || named.group(1).isEmpty() ? 0 : named.group(1).split(", ").length;
                Check.due(method.getName() + "'s parameters", method.getParameterCount(), words);
            }
        }
    }

    private static void everyTestIsNamed(String readme) throws IOException {
        try (DirectoryStream<Path> tests = Files.newDirectoryStream(Path.of("src/test/java"), "*Test.java")) {
            for (Path test : tests) {
                String name = test.getFileName().toString().replace(".java", "");
                Check.due(name + " is named", true, readme.contains("`" + name + "`"));
            }
        }
    }
}
