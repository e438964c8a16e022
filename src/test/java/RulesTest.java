import java.io.IOException;
import java.lang.reflect.Field;
import java.lang.reflect.Method;
import java.lang.reflect.Modifier;
import java.nio.file.Files;
import java.nio.file.Path;
import java.util.ArrayList;
import java.util.Arrays;
import java.util.HashSet;
import java.util.List;
import java.util.Map;
import java.util.Set;
import java.util.TreeMap;
import java.util.TreeSet;
import java.util.regex.Matcher;
import java.util.regex.Pattern;

/** What can be seen of LANGUAGE.md's rules and of the document's face. */
public final class RulesTest {
    private static final Path SOURCE = Path.of("src/main/java/ThreeMasters.java");

    public static void main(String[] args) throws IOException {
        String source = Files.readString(SOURCE);
        String code = source.replaceAll("(?s)/\\*.*?\\*/", "").replaceAll("//[^\n]*", "");
        face();
        headings(source);
        namesOfMethods();
        nestedClasses();
        words(code);
        library(code);
        methods(code);
        Due.holds("the source is plain ASCII", source.chars().allMatch(c -> c < 128));
        Due.end();
    }

    private static String signature(Method m) {
        List<String> types = new ArrayList<>();
        for (Class<?> type : m.getParameterTypes()) {
            types.add(type.getSimpleName());
        }
        return m.getReturnType().getSimpleName() + " " + m.getName() + types;
    }

    private static Set<String> faceOfTheDocument() {
        Set<String> face = new TreeSet<>();
        Matcher m = Pattern.compile("public (int|long) (\\w+)\\(([^)]*)\\);").matcher(Due.document());
        while (m.find()) {
            List<String> types = new ArrayList<>();
            for (String parameter : m.group(3).split(",")) {
                if (!parameter.isBlank()) {
                    types.add(parameter.trim().split(" ")[0]);
                }
            }
            face.add(m.group(1) + " " + m.group(2) + types);
        }
        return face;
    }

    private static void face() {
        Set<String> open = new TreeSet<>();
        for (Method m : ThreeMasters.class.getDeclaredMethods()) {
            if (!Modifier.isPrivate(m.getModifiers())) {
                Due.holds(m + " is public and no more", m.getModifiers() == Modifier.PUBLIC);
                open.add(signature(m));
            }
        }
        Set<String> wanted = faceOfTheDocument();
        Due.is("methods of the face", wanted.size(), 37);
        Due.holds("the face is the document's: " + open, open.equals(wanted));
        Set<String> constants = new TreeSet<>();
        for (Field f : ThreeMasters.class.getDeclaredFields()) {
            if (!Modifier.isPrivate(f.getModifiers())) {
                constants.add(f.getName());
            }
            if (Modifier.isStatic(f.getModifiers())) {
                Due.holds(f + " is final", Modifier.isFinal(f.getModifiers()));
            }
        }
        Due.holds("constants", constants.equals(Set.of("NONE", "BAD", "NOT", "FULL")));
        Due.is("constructors", ThreeMasters.class.getDeclaredConstructors().length, 1);
        Due.holds("final", Modifier.isFinal(ThreeMasters.class.getModifiers()));
    }

    private static void headings(String source) {
        Due.says("Ahead of the calls `measure`, `type`, `wipe`, `fault`, `floor`, `cut`, `shim`, `set` the interface says: ---- "
            + "measures, plans.");
        Due.says("Ahead of the calls `sill`, `worst`, `stairs`, `even`, `blame` the interface says: ---- how far off.");
        Due.says("Ahead of the calls `found`, `read`, `fits`, `worlds`, `odds` the interface says: ---- found.");
        Due.says("Ahead of the calls `lean`, `runs`, `lifts`, `longest`, `mended`, `next` the interface says: ---- shafts, mending.");
        Due.says("Ahead of the calls `weigh`, `bears`, `safe`, `more`, `stones` the interface says: ---- loads, stones.");
        Due.says("Ahead of the calls `sheet`, `lose`, `put`, `get`, `copy`, `write`, `count`, `digest` the interface says: ---- sheets.");
        List<String> wanted = new ArrayList<>();
        Matcher group = Pattern.compile("Ahead of the calls (.*?) the interface says: (---- [^.]*)\\.").matcher(Due.document());
        while (group.find()) {
            wanted.add(group.group(2));
            wanted.addAll(Arrays.asList(group.group(1).replace("`", "").split(", ")));
        }
        List<String> written = new ArrayList<>();
        Matcher line = Pattern.compile("(?m)^    (?:// (----.*)|public (?:int|long) (\\w+)\\(.*)$").matcher(source);
        while (line.find()) {
            written.add(line.group(1) == null ? line.group(2) : line.group(1));
        }
        Due.holds("the calls stand under their headings: " + written, written.equals(wanted));
    }

    private static void namesOfMethods() {
        Set<String> open = new HashSet<>();
        for (Method m : ThreeMasters.class.getDeclaredMethods()) {
            if (Modifier.isPublic(m.getModifiers())) {
                open.add(m.getName());
            }
        }
        List<Class<?>> classes = new ArrayList<>(Arrays.asList(ThreeMasters.class.getDeclaredClasses()));
        classes.add(ThreeMasters.class);
        for (Class<?> c : classes) {
            for (Method m : c.getDeclaredMethods()) {
                boolean ofTheFace = c == ThreeMasters.class && Modifier.isPublic(m.getModifiers());
                Due.holds(m + " bears a name of its own", ofTheFace || !open.contains(m.getName()));
                Due.holds(m + " takes seven at most", m.getParameterCount() <= 7);
            }
        }
    }

    private static void nestedClasses() {
        Class<?>[] nested = ThreeMasters.class.getDeclaredClasses();
        Due.holds("some twelve classes", nested.length < 12);
        for (Class<?> c : nested) {
            Due.holds(c + " is static", Modifier.isStatic(c.getModifiers()));
            Due.holds(c + " is not public", !Modifier.isPublic(c.getModifiers()));
            Due.holds(c + " has some twenty fields", c.getDeclaredFields().length <= 20);
            Due.is(c + " has no classes", c.getDeclaredClasses().length, 0);
        }
    }

    private static void words(String code) {
        String[] ruledOut = {"throw", "throws", "try", "catch", "finally", "synchronized", "assert", "package",
            "protected", "volatile", "transient", "native", "Object", "hashCode", "toString", "System.out", "Random",
            "Thread", "double", "float"};
        for (String word : ruledOut) {
            Due.holds("no " + word, !Pattern.compile("\\b" + Pattern.quote(word) + "\\b").matcher(code).find());
        }
        Due.holds("no lambda and no method reference", !code.contains("->") && !code.contains("::"));
        Due.holds("no Exact", !code.contains("Exact("));
    }

    private static void library(String code) {
        Set<String> allowed = Set.of("Arrays.fill", "Math.abs", "Math.max", "Math.min", "Math.floorDiv",
            "System.arraycopy");
        Matcher m = Pattern.compile("\\b(Arrays|Math|System|Integer|Long|String|StringBuilder|List|ArrayList)\\.(\\w+)").matcher(code);
        while (m.find()) {
            boolean imported = m.start() > 0 && code.charAt(m.start() - 1) == '.';
            Due.holds(m.group() + " is allowed", imported || allowed.contains(m.group()));
        }
        Matcher imports = Pattern.compile("import ([^;]+);").matcher(code);
        while (imports.find()) {
            Due.holds("import " + imports.group(1), imports.group(1).equals("java.util.Arrays"));
        }
    }

    /** Method by method; a method begins with a line that ends in "{" and has a bracket, at a depth of 4 or 8 signs. */
    private static void methods(String code) {
        Map<String, String> bodies = new TreeMap<>();
        String[] lines = code.split("\n");
        for (int i = 0; i < lines.length; i++) {
            Matcher m = Pattern.compile("^( {4}| {8})(?! )[\\w\\[\\] ]*?(\\w+)\\(.*\\) \\{$").matcher(lines[i]);
            if (!m.find()) {
                continue;
            }
            int end = i;
            while (end < lines.length && !lines[end].equals(m.group(1) + "}")) {
                end++;
            }
            Due.holds(lines[i].trim() + " has sixty lines at most", end - i <= 60);
            String body = String.join("\n", Arrays.asList(lines).subList(i + 1, Math.min(end, lines.length)));
            bodies.merge(m.group(2), body, (one, other) -> one + "\n" + other);
        }
        for (String name : bodies.keySet()) {
            boolean constructor = Character.isUpperCase(name.charAt(0));
            Due.holds(name + " makes no object", constructor || !bodies.get(name).matches("(?s).*\\b(new|clone|copyOf|copyOfRange)\\b.*"));
            int deep = depth(name, bodies, 1);
            Due.holds(name + " goes eight calls deep at most, without recursion: " + deep, deep <= 8);
        }
    }

    /** How many calls stand open at once at most, this one among them; a recursion is given up at twenty. */
    private static int depth(String name, Map<String, String> bodies, int open) {
        int deepest = open;
        Matcher call = Pattern.compile("\\b(\\w+)\\(").matcher(bodies.get(name));
        while (call.find() && open < 20) {
            if (bodies.containsKey(call.group(1))) {
                deepest = Math.max(deepest, depth(call.group(1), bodies, open + 1));
            }
        }
        return deepest;
    }
}
