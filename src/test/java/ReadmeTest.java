import java.io.IOException;
import java.lang.reflect.Method;
import java.lang.reflect.Modifier;
import java.nio.file.DirectoryStream;
import java.nio.file.Files;
import java.nio.file.Path;
import java.util.Set;
import java.util.TreeSet;
import java.util.regex.Matcher;
import java.util.regex.Pattern;

/** The calls that README.md shows, read from the page itself, with the answers that it tells. */
public final class ReadmeTest {
    private static final Path PAGE = Path.of("README.md");
    private static final Path TESTS = Path.of("src/test/java");
    private static final Pattern NEW_OBJECT = Pattern.compile("WindowLines x = new WindowLines\\(\\);");
    private static final Pattern TYPED =
            Pattern.compile("for \\(char sign : \"([^\"\\\\]*)\"\\.toCharArray\\(\\)\\) x\\.append\\(sign\\);");
    private static final Pattern CALL =
            Pattern.compile("x\\.(\\w+)\\(([-0-9, ]*)\\); +// (-?\\d+|[A-Z_]+)(?:: .*)?");
    private static final Pattern ROW = Pattern.compile("\\| `(\\w+)\\(([a-z, ]*)\\)` \\|.*\\|");

    private static int wrong = 0;
    private static int calls = 0;
    private static final Set<String> shown = new TreeSet<>();
    private static final Set<String> inTable = new TreeSet<>();
    private static final Set<String> codes = new TreeSet<>();

    public static void main(String[] args) throws IOException, ReflectiveOperationException {
        String page = Files.readString(PAGE);
        readPage(page.split("\n"));
        checkThatAllIsShown();
        checkThatTestsAreNamed(page);
        System.out.println("the README: " + calls + " calls, " + wrong + " wrong");
        if (wrong != 0) {
            System.exit(1);
        }
    }

    private static void due(boolean holds, String fault) {
        if (!holds) {
            wrong++;
            System.out.println(fault);
        }
    }

    /** A block goes on with the object of the one before it, unless it makes one. */
    private static void readPage(String[] lines) throws ReflectiveOperationException {
        WindowLines x = null;
        boolean inCode = false;
        for (int i = 0; i < lines.length; i++) {
            String where = "README.md, line " + (i + 1) + ": ";
            Matcher row = ROW.matcher(lines[i]);
            if (lines[i].startsWith("```")) {
                inCode = !inCode;
                due(!inCode || lines[i].equals("```java"), where + "a block that is no Java");
            } else if (inCode && NEW_OBJECT.matcher(lines[i]).matches()) {
                x = new WindowLines();
            } else if (inCode) {
                readCode(x, lines[i], where);
            } else if (row.matches()) {
                inTable.add(row.group(1) + numbered(row.group(2)));
            }
        }
        due(!inCode, "README.md: a block has no end");
    }

    private static void readCode(WindowLines x, String line, String where) throws ReflectiveOperationException {
        Matcher typed = TYPED.matcher(line);
        Matcher call = CALL.matcher(line);
        if (x == null) {
            due(false, where + "there is no object yet");
        } else if (typed.matches()) {
            for (char sign : typed.group(1).toCharArray()) {
                due(x.append(sign) > 0, where + "a character is refused");
            }
        } else if (call.matches()) {
            calls++;
            shown.add(call.group(1) + numbered(call.group(2)));
            int got = answerOf(x, call.group(1), call.group(2));
            due(got == numberOf(call.group(3)), where + line + " answered " + got);
        } else {
            due(false, where + "neither a call with its answer nor a text: " + line);
        }
    }

    private static int answerOf(WindowLines x, String name, String list) throws ReflectiveOperationException {
        String[] words = list.isEmpty() ? new String[0] : list.split(", ");
        Class<?>[] types = new Class<?>[words.length];
        Object[] values = new Object[words.length];
        for (int i = 0; i < words.length; i++) {
            types[i] = int.class;
            values[i] = Integer.valueOf(words[i]);
        }
        return (Integer) WindowLines.class.getMethod(name, types).invoke(x, values);
    }

    private static int numberOf(String answer) throws ReflectiveOperationException {
        if (Character.isUpperCase(answer.charAt(0))) {
            codes.add(answer);
            return WindowLines.class.getField(answer).getInt(null);
        }
        return Integer.parseInt(answer);
    }

    private static String numbered(String list) {
        return "/" + (list.isEmpty() ? 0 : list.split(",").length);
    }

    private static void checkThatAllIsShown() {
        Set<String> face = new TreeSet<>();
        for (Method method : WindowLines.class.getDeclaredMethods()) {
            if (Modifier.isPublic(method.getModifiers())) {
                face.add(method.getName() + "/" + method.getParameterCount());
            }
        }
        due(face.size() == 20, "the face has " + face.size() + " methods");
        due(shown.equals(face), "the examples show " + shown + " of " + face);
        due(inTable.equals(face), "the table tells " + inTable + " of " + face);
        due(codes.equals(Set.of("INVALID_ARGUMENT", "ILLEGAL_STATE", "NONE")), "the codes shown are " + codes);
    }

    private static void checkThatTestsAreNamed(String page) throws IOException {
        int found = 0;
        try (DirectoryStream<Path> tests = Files.newDirectoryStream(TESTS, "*.java")) {
            for (Path test : tests) {
                found++;
                due(page.contains("`src/test/java/" + test.getFileName() + "`"), "README.md does not name " + test);
            }
        }
        due(found > 0, "there are no tests");
        due(page.contains("    .ci/run\n"), "README.md does not tell how the tests are run");
    }
}
