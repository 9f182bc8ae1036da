import java.io.IOException;
import java.lang.reflect.Field;
import java.lang.reflect.Method;
import java.lang.reflect.Modifier;
import java.nio.file.Files;
import java.nio.file.Path;
import java.util.List;
import java.util.Set;
import java.util.TreeSet;
import java.util.regex.Matcher;
import java.util.regex.Pattern;

/** The public face, and the rules of LANGUAGE.md that can be seen from the text. */
public final class FaceTest {
    private static final Check check = new Check();
    private static final Set<String> FACE = new TreeSet<>(List.of(
            "int fill(int,int,int,int)", "int add(int,int,int,int)", "int turn(int,int)", "int renew(int)",
            "int readOrders()", "int setWay(int)", "int setRoom(int)", "int flush()", "int store(int)",
            "int trim()", "int damage(int)", "int crash()", "int type(char)", "int clearText()", "int undo()",
            "int keep()", "int restore()", "int cell(int,int)", "int page(int,int)", "int stored(int,int)",
            "int entry(int,int)", "int asOf(int,int,int)", "int wouldLog(int,int)", "int bestRenewed()",
            "int count(int)"));

    public static void main(String[] args) throws IOException, IllegalAccessException {
        constants();
        methods();
        classesInside();
        source();
        sections();
        check.end();
    }

    /** What the interface says ahead of which calls, in its order. */
    private static void sections() throws IOException {
        Pattern told = Pattern.compile("^ {4}(?:// (---- [a-z ]+)|public int (\\w+)\\(.*)$", Pattern.MULTILINE);
        StringBuilder found = new StringBuilder();
        Matcher line = told.matcher(Files.readString(Path.of("src/main/java/PictureLog.java")));
        while (line.find()) {
            found.append(line.group(1) != null ? line.group(1) + ":" : line.group(2)).append(' ');
        }
        String[] wanted = {"---- changes: fill add turn renew readOrders ",
            "---- log and store: setWay setRoom flush store trim damage crash ", "---- texts: type clearText ",
            "---- history: undo keep restore ",
            "---- what is told: cell page stored entry asOf wouldLog bestRenewed count "};
        check.sentence("the interface says");
        check.holds("its order: " + found, found.toString().equals(String.join("", wanted)));
    }

    private static void constants() throws IllegalAccessException {
        check.due("UNKNOWN", PictureLog.UNKNOWN, -1);
        check.due("BAD_VALUE", PictureLog.BAD_VALUE, -2);
        check.due("FULL", PictureLog.FULL, -3);
        check.due("NOT_POSSIBLE", PictureLog.NOT_POSSIBLE, -4);
        check.due("NONE", PictureLog.NONE, -5);
        Set<String> open = new TreeSet<>();
        for (Field field : PictureLog.class.getDeclaredFields()) {
            if (!Modifier.isPrivate(field.getModifiers())) {
                open.add(field.getName());
                check.due("modifiers of " + field.getName(), field.getModifiers(),
                        Modifier.PUBLIC | Modifier.STATIC | Modifier.FINAL);
            }
        }
        check.holds("the constants and no other open field: " + open,
                open.equals(Set.of("UNKNOWN", "BAD_VALUE", "FULL", "NOT_POSSIBLE", "NONE")));
    }

    private static void methods() {
        Set<String> open = new TreeSet<>();
        Set<String> openNames = new TreeSet<>();
        for (Method method : PictureLog.class.getDeclaredMethods()) {
            if (!Modifier.isPrivate(method.getModifiers())) {
                openNames.add(method.getName());
                String form = method.toGenericString().replace("PictureLog.", "");
                check.holds("public: " + form, form.startsWith("public int "));
                open.add(form.substring("public ".length()));
            }
        }
        check.holds("the face: " + open, open.equals(FACE));
        check.due("constructors", PictureLog.class.getDeclaredConstructors().length, 1);
        check.due("modifiers", PictureLog.class.getModifiers(), Modifier.PUBLIC | Modifier.FINAL);
        for (Class<?> owner : PictureLog.class.getDeclaredClasses()) {
            for (Method method : owner.getDeclaredMethods()) {
                check.holds("no name of the face: " + method, !openNames.contains(method.getName()));
            }
        }
        for (Method method : PictureLog.class.getDeclaredMethods()) {
            check.holds("no name of the face: " + method,
                    Modifier.isPublic(method.getModifiers()) || !openNames.contains(method.getName()));
        }
    }

    private static void classesInside() {
        for (Class<?> inside : PictureLog.class.getDeclaredClasses()) {
            check.holds("static: " + inside, Modifier.isStatic(inside.getModifiers()));
            check.holds("not public: " + inside, !Modifier.isPublic(inside.getModifiers()));
            int fields = 0;
            for (Field field : inside.getDeclaredFields()) {
                check.holds("no static field that changes: " + field,
                        !Modifier.isStatic(field.getModifiers()) || Modifier.isFinal(field.getModifiers()));
                fields++;
            }
            check.holds("some twenty fields", fields <= 20);
            for (Method method : inside.getDeclaredMethods()) {
                check.holds("seven parameters: " + method, method.getParameterCount() <= 7);
            }
        }
        check.holds("some twelve classes", PictureLog.class.getDeclaredClasses().length < 12);
    }

    private static void source() throws IOException {
        String text = Files.readString(Path.of("src/main/java/PictureLog.java"));
        check.holds("signs from 10 to 126", text.chars().allMatch(c -> c == '\n' || c >= ' ' && c < 127));
        String code = text.replaceAll("(?s)/\\*.*?\\*/", "").replaceAll("//[^\n]*", "");
        String[] words = {"throw", "throws", "try", "catch", "finally", "synchronized", "assert", "package",
            "protected", "equals", "hashCode", "toString", "Object", "System\\.(?!arraycopy)", "->", "::",
            "Exact", "HashMap", "Random", "Thread", "native", "volatile", "transient", "var"};
        for (String word : words) {
            boolean letters = Character.isLetter(word.charAt(0));
            Pattern pattern = Pattern.compile(letters && !word.equals("Exact") ? "\\b" + word
                    + (word.endsWith(")") ? "" : "\\b") : word);
            check.holds("no " + word, !pattern.matcher(code).find());
        }
        for (String line : code.split("\n")) {
            check.holds("imports: " + line, !line.startsWith("import ") || line.equals("import java.util.Arrays;"));
        }
        longMethods(code);
    }

    private static void longMethods(String code) {
        int start = 0;
        int number = 0;
        for (String line : code.split("\n")) {
            number++;
            boolean method = line.matches("( {4}| {8})\\w.*\\) \\{");
            if (method) {
                start = number;
            }
            if (line.equals("    }") || line.equals("        }")) {
                check.holds("some sixty lines, up to line " + number, number - start <= 60 || start == 0);
                start = 0;
            }
        }
    }
}
