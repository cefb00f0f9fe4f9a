import java.io.IOException;
import java.lang.reflect.Method;
import java.nio.file.Files;
import java.nio.file.Path;
import java.util.HashMap;
import java.util.Map;
import java.util.Set;
import java.util.TreeSet;
import java.util.regex.Matcher;
import java.util.regex.Pattern;

/** The example of README.md: each call answers what its comment begins with. */
public final class ReadmeTest {
    private static final Pattern LINE =
            Pattern.compile("(?:int (\\w+) = )?x\\.(\\w+)\\((.*)\\);\\s+// (-?\\d+)\\b.*");

    public static void main(String[] args) throws IOException, ReflectiveOperationException {
        String page = Files.readString(Path.of("README.md"));
        int begin = page.indexOf("```java\n");
        int end = page.indexOf("```\n", begin + 3);
        Check.that("there is an example", begin >= 0 && end > begin);
        Set<String> made = runExample(page.substring(begin + 8, end).split("\n"));
        for (Method method : SlideRules.class.getDeclaredMethods()) {
            if (java.lang.reflect.Modifier.isPublic(method.getModifiers())) {
                String name = method.getName();
                Check.that("README.md shows " + name, made.contains(name) || name.equals("digest"));
                Check.that("README.md lists " + name, page.matches("(?s).*\\n\\|[^|]*\\b" + name + "\\b[^|]*\\|.*"));
            }
        }
        Check.end();
    }

    private static Set<String> runExample(String[] lines) throws ReflectiveOperationException {
        SlideRules x = new SlideRules();
        Map<String, Object> known = new HashMap<>();
        Set<String> made = new TreeSet<>();
        for (String line : lines) {
            Matcher call = LINE.matcher(line);
            if (call.matches()) {
                Object got = answer(x, known, call.group(2), call.group(3));
                Check.due("README.md: " + line, (int) got, Integer.parseInt(call.group(4)));
                if (call.group(1) != null) {
                    known.put(call.group(1), got);
                }
                made.add(call.group(2));
            } else {
                Check.that("README.md has a line of its kind: " + line,
                        line.isEmpty() || line.startsWith("// ") || line.equals("SlideRules x = new SlideRules();"));
            }
        }
        return made;
    }

    private static Object answer(SlideRules x, Map<String, Object> known, String name, String told)
            throws ReflectiveOperationException {
        String[] words = told.isEmpty() ? new String[0] : told.split(", ");
        Class<?>[] types = new Class<?>[words.length];
        Object[] values = new Object[words.length];
        for (int i = 0; i < words.length; i++) {
            boolean flag = words[i].equals("true") || words[i].equals("false");
            types[i] = flag ? boolean.class : int.class;
            if (flag) {
                values[i] = words[i].equals("true");
            } else {
                values[i] = known.containsKey(words[i]) ? known.get(words[i]) : (Object) Integer.valueOf(words[i]);
            }
        }
        return SlideRules.class.getMethod(name, types).invoke(x, values);
    }
}
