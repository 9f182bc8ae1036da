import java.io.IOException;
import java.lang.reflect.Method;
import java.lang.reflect.Modifier;
import java.nio.file.Files;
import java.nio.file.Path;
import java.util.ArrayList;
import java.util.List;
import java.util.regex.Matcher;
import java.util.regex.Pattern;

/** What README.md says: the answers behind its calls, and that it tells each call and each constant of the face. */
public final class ReadmeTest {
    private static final Pattern CALL = Pattern.compile("x\\.(\\w+)\\((.*)\\); +// (-?\\d+): .*");
    private static final Check check = new Check();

    public static void main(String[] args) throws IOException, ReflectiveOperationException {
        List<String> lines = Files.readAllLines(Path.of("README.md"));
        examples(lines);
        calls(lines);
        constants(lines);
        tests(lines);
        check.end();
    }

    private static void examples(List<String> lines) throws ReflectiveOperationException {
        check.sentence("README.md, the answers behind the calls");
        boolean inside = false;
        int answered = 0;
        PictureLog x = null;
        for (String line : lines) {
            if (line.startsWith("```")) {
                inside = line.equals("```java");
            } else if (inside && line.equals("PictureLog x = new PictureLog();")) {
                x = new PictureLog();
            } else if (inside) {
                Matcher call = CALL.matcher(line);
                check.holds("a call and its answer: " + line, call.matches());
                check.due(line, answer(x, call.group(1), call.group(2)), Integer.parseInt(call.group(3)));
                answered++;
            }
        }
        check.holds("there are calls", answered > 20);
    }

    private static int answer(PictureLog x, String name, String args) throws ReflectiveOperationException {
        if (name.equals("type")) {
            Check.type(x, args.substring(1, args.length() - 1));
            return x.count(13);
        }
        List<Integer> numbers = new ArrayList<>();
        for (String arg : args.isEmpty() ? new String[0] : args.split(", ")) {
            numbers.add(Integer.parseInt(arg));
        }
        for (Method method : PictureLog.class.getMethods()) {
            if (method.getName().equals(name)) {
                return (Integer) method.invoke(x, numbers.toArray());
            }
        }
        throw new IllegalStateException("no call " + name);
    }

    private static void calls(List<String> lines) {
        check.sentence("README.md, its calls");
        for (Method method : PictureLog.class.getDeclaredMethods()) {
            if (Modifier.isPublic(method.getModifiers())) {
                String args = ", \\w+".repeat(method.getParameterCount()).replaceFirst(", ", "");
                Pattern row = Pattern.compile("\\| `" + method.getName() + "\\(" + args + "\\)` \\| .+ \\| .+ \\|");
                check.due("rows of " + method.getName(),
                        lines.stream().filter(line -> row.matcher(line).matches()).count(), 1);
            }
        }
    }

    private static void constants(List<String> lines) throws ReflectiveOperationException {
        check.sentence("README.md, its constants");
        for (String name : List.of("UNKNOWN", "BAD_VALUE", "FULL", "NOT_POSSIBLE", "NONE")) {
            String row = "| `" + name + "` | " + PictureLog.class.getField(name).getInt(null) + " | ";
            check.due("rows of " + name, lines.stream().filter(line -> line.startsWith(row)).count(), 1);
        }
    }

    private static void tests(List<String> lines) throws IOException {
        check.sentence("README.md, its tests");
        try (var files = Files.list(Path.of("src/test/java"))) {
            for (Path file : (Iterable<Path>) files::iterator) {
                String name = file.getFileName().toString().replace(".java", "");
                check.holds("it tells of " + name, lines.stream().anyMatch(line -> line.contains("`" + name + "`")));
            }
        }
    }
}
