import java.io.IOException;
import java.lang.reflect.InvocationTargetException;
import java.lang.reflect.Method;
import java.lang.reflect.Modifier;
import java.nio.file.DirectoryStream;
import java.nio.file.Files;
import java.nio.file.Path;
import java.util.Map;
import java.util.Set;
import java.util.TreeMap;
import java.util.TreeSet;
import java.util.regex.Matcher;
import java.util.regex.Pattern;

/** README.md tells no call, part or test that is not so, and leaves none out. */
public final class ReadmeTest {
    private static final Pattern BLOCK = Pattern.compile("(?s)```java\n(.*?)```");
    private static final Pattern MADE = Pattern.compile("ThreeMasters x = new ThreeMasters\\(\\);");
    private static final Pattern TYPED = Pattern.compile("for \\(char c : \"(.*)\"\\.toCharArray\\(\\)\\) \\{");
    private static final Pattern CALL = Pattern.compile("x\\.(\\w+)\\((.*)\\); +// (-?\\d+)(?!\\d).*");

    private final Map<String, Method> face = new TreeMap<>();
    private final Set<String> shown = new TreeSet<>();
    private ThreeMasters x = new ThreeMasters();

    private ReadmeTest() {
        for (Method m : ThreeMasters.class.getDeclaredMethods()) {
            if (Modifier.isPublic(m.getModifiers())) {
                face.put(m.getName(), m);
            }
        }
    }

    public static void main(String[] args) throws IOException, ReflectiveOperationException {
        String page = Files.readString(Path.of("README.md"));
        ReadmeTest test = new ReadmeTest();
        Matcher block = BLOCK.matcher(page);
        while (block.find()) {
            for (String line : block.group(1).split("\n")) {
                test.follow(line.trim());
            }
        }
        Due.holds("every call is shown: " + test.shown, test.shown.equals(test.face.keySet()));
        for (Class<?> part : ThreeMasters.class.getDeclaredClasses()) {
            Due.holds("README.md names " + part, page.contains("| `" + part.getSimpleName() + "` |"));
        }
        try (DirectoryStream<Path> files = Files.newDirectoryStream(Path.of("src/test/java"), "*.java")) {
            for (Path file : files) {
                String name = file.getFileName().toString().replace(".java", "");
                Due.holds("README.md names " + name, page.contains("`" + name + "`"));
            }
        }
        Due.end();
    }

    private void follow(String line) throws IllegalAccessException, InvocationTargetException {
        Matcher typed = TYPED.matcher(line);
        Matcher call = CALL.matcher(line);
        if (MADE.matcher(line).matches()) {
            x = new ThreeMasters();
        } else if (typed.matches()) {
            Due.typed(x, typed.group(1));
        } else if (call.matches() && face.containsKey(call.group(1))) {
            shown.add(call.group(1));
            Due.is("README.md: " + line, answer(face.get(call.group(1)), call.group(2)), Long.parseLong(call.group(3)));
        } else {
            boolean aside = line.isEmpty() || line.startsWith("//") || line.equals("x.type(c);") || line.equals("}");
            Due.holds("README.md, a line that can be followed: " + line, aside);
        }
    }

    private long answer(Method call, String arguments) throws IllegalAccessException, InvocationTargetException {
        String[] words = arguments.isEmpty() ? new String[0] : arguments.split(", ");
        Object[] numbers = new Object[words.length];
        for (int i = 0; i < words.length; i++) {
            numbers[i] = words[i].equals("ThreeMasters.NONE") ? ThreeMasters.NONE : Integer.parseInt(words[i]);
        }
        return ((Number) call.invoke(x, numbers)).longValue();
    }
}
