import java.io.IOException;
import java.lang.reflect.Method;
import java.nio.file.Files;
import java.nio.file.Path;
import java.util.HashSet;
import java.util.List;
import java.util.Set;
import java.util.regex.Matcher;
import java.util.regex.Pattern;
import java.util.stream.Stream;

/** What README.md tells a reader is so: its text, the answers of its calls, in their order. */
public final class ReadmeTest {
    private static final Pattern ROW = Pattern.compile("\\| `(\\w+)\\(([^)]*)\\)` \\| (-?\\d+) \\| .*");

    public static void main(String[] args) throws IOException, ReflectiveOperationException {
        List<String> page = Files.readAllLines(Path.of("README.md"));
        String text = text(page);
        Check.due("tell(x, its text)", tell(new RainOrgan(), text), 10);
        RainOrgan x = new RainOrgan();
        tell(x, text);
        calls(x, page);
        tellIsAsHere(page);
        everyTestIsNamed(String.join("\n", page));
        Check.finish("ReadmeTest");
    }

    /** Each line up to its sign; what stands behind it is for the reader. */
    private static String text(List<String> page) {
        StringBuilder text = new StringBuilder();
        int start = page.indexOf("```text");
        for (int i = start + 1; start >= 0 && i < page.size() && !page.get(i).equals("```"); i++) {
            text.append(page.get(i), 0, page.get(i).indexOf(';') + 1).append(' ');
        }
        return text.toString();
    }

    /** As the page tells it: tellIsAsHere compares both. */
    static int tell(RainOrgan x, String text) {
        x.end(0);
        for (int at = 0; at < text.length(); at += 8) {
            long v = 0;
            for (int i = at; i < at + 8; i++) {
                v = v << 8 | (i < text.length() ? text.charAt(i) : ' ');
            }
            if (x.feed(v) < 0) {
                return RainOrgan.FULL;
            }
        }
        x.end(text.length());
        return x.organ();
    }

    private static void tellIsAsHere(List<String> page) throws IOException {
        List<String> here = Files.readAllLines(Path.of("src/test/java/ReadmeTest.java"));
        int there = page.indexOf("```java") + 1;
        int start = here.indexOf("    static int tell(RainOrgan x, String text) {");
        Check.due("README.md has a tell", there > 0 && start >= 0 ? 1 : 0, 1);
        for (int i = 0; there > 0 && there + i < page.size() && !page.get(there + i).equals("```"); i++) {
            Check.due("line " + i + " of tell", here.get(start + i).equals("    " + page.get(there + i)) ? 1 : 0, 1);
        }
    }

    private static void calls(RainOrgan x, List<String> page) throws ReflectiveOperationException {
        Set<String> shown = new HashSet<>(Set.of("feed", "end", "organ"));
        for (String line : page) {
            Matcher row = ROW.matcher(line);
            if (row.matches()) {
                shown.add(row.group(1));
                int got = call(x, row.group(1), row.group(2));
                Check.due(row.group(1) + "(" + row.group(2) + ")", got, Integer.parseInt(row.group(3)));
            }
        }
        for (Method method : RainOrgan.class.getDeclaredMethods()) {
            if (java.lang.reflect.Modifier.isPublic(method.getModifiers())) {
                Check.due("README.md shows " + method.getName(), shown.contains(method.getName()) ? 1 : 0, 1);
            }
        }
    }

    private static int call(RainOrgan x, String name, String given) throws ReflectiveOperationException {
        String[] words = given.isEmpty() ? new String[0] : given.split(", ");
        Class<?>[] types = new Class<?>[words.length];
        Object[] values = new Object[words.length];
        for (int i = 0; i < words.length; i++) {
            boolean is = words[i].equals("true") || words[i].equals("false");
            types[i] = is ? boolean.class : int.class;
            values[i] = is ? (Object) Boolean.valueOf(words[i]) : (Object) Integer.valueOf(words[i]);
        }
        return (Integer) RainOrgan.class.getMethod(name, types).invoke(x, values);
    }

    private static void everyTestIsNamed(String page) throws IOException {
        try (Stream<Path> files = Files.list(Path.of("src/test/java"))) {
            for (Path file : files.toList()) {
                String name = file.getFileName().toString().replace(".java", "");
                if (name.endsWith("Test")) {
                    Check.due("README.md names " + name, page.contains("| `" + name + "` |") ? 1 : 0, 1);
                }
            }
        }
    }
}
