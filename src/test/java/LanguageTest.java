import java.io.IOException;
import java.lang.management.ManagementFactory;
import java.lang.reflect.Constructor;
import java.lang.reflect.Field;
import java.lang.reflect.Method;
import java.lang.reflect.Modifier;
import java.nio.file.Files;
import java.nio.file.Path;
import java.util.Set;
import java.util.TreeSet;
import java.util.regex.Matcher;
import java.util.regex.Pattern;

/** The class's face, and the rules of ../shared/LANGUAGE.md that a look at the source can tell. */
public final class LanguageTest {
    private static final Path SOURCE = Path.of("src/main/java/WindowLines.java");
    private static final int LONGEST_METHOD = 60;
    private static final int MOST_FIELDS = 20;
    private static final int MOST_CLASSES = 12;
    private static final Set<String> FACE = Set.of(
            "int put(int,int,int)", "int cut(int)", "int change(int,int)", "int setHeight(int)",
            "int setWidth(int)", "int scroll(int)", "int jump(int)", "int goTo(int)", "int undo()",
            "int append(int)", "int clearText()", "int run()", "int count(int)", "int line(int,int)",
            "int seen(int)", "int at(int)", "int share()", "int trueSum(int,int)",
            "int scrollsTo(int,int)", "int measuredBy(int)");
    private static final Set<String> CONSTANTS = Set.of(
            "INVALID_ARGUMENT", "ILLEGAL_STATE", "CAPACITY_EXCEEDED", "NONE");
    private static final String[] FORBIDDEN = {
        "\\bimport\\b", "\\bpackage\\b", "\\bthrow\\b", "\\bthrows\\b", "\\btry\\b", "\\bcatch\\b",
        "\\bsynchronized\\b", "\\bassert\\b", "->", "::", "\\bstatic\\s*\\{", "\\bequals\\b",
        "\\bhashCode\\b", "\\btoString\\b", "\\bprotected\\b", "\\bnative\\b", "\\bvolatile\\b",
        "\\bThread\\b", "\\bRandom\\b", "\\bSystem\\.(?!arraycopy\\b)", "\\w+Exact\\b", "@",
        "\\bObject\\b", "\\bdouble\\b", "\\bfloat\\b", "\\bjava\\.",
    };

    private static int wrong = 0;

    public static void main(String[] args) throws IOException {
        String source = Files.readString(SOURCE);
        String code = withoutTextsAndComments(source);
        checkFace();
        checkNestedClasses();
        for (String pattern : FORBIDDEN) {
            Matcher found = Pattern.compile(pattern).matcher(code);
            due(!found.find(), "the source has " + pattern);
        }
        due(source.chars().allMatch(c -> c < 128), "the source has a sign beyond 127");
        checkMethodLengths(code.split("\n"));
        checkObjectsAreMadeInConstructors(code.split("\n"));
        checkCallsMakeNothing();
        System.out.println("the language: " + wrong + " wrong");
        if (wrong != 0) {
            System.exit(1);
        }
    }

    private static void due(boolean holds, String fault) {
        if (!holds) {
            wrong++;
            System.out.println(fault);
        }
    }

    private static String withoutTextsAndComments(String source) {
        return source.replaceAll("\"[^\"\n]*\"", "\"\"")
                .replaceAll("(?s)/\\*.*?\\*/", "")
                .replaceAll("//[^\n]*", "");
    }

    private static void checkFace() {
        int modifiers = WindowLines.class.getModifiers();
        due(Modifier.isPublic(modifiers) && Modifier.isFinal(modifiers), "the class is not public and final");
        Set<String> open = new TreeSet<>();
        Set<String> names = new TreeSet<>();
        for (Method method : WindowLines.class.getDeclaredMethods()) {
            if (Modifier.isPublic(method.getModifiers())) {
                due(!Modifier.isStatic(method.getModifiers()), method.getName() + " is static");
                open.add(described(method));
                names.add(method.getName());
            } else {
                due(Modifier.isPrivate(method.getModifiers()), method.getName() + " is neither public nor private");
            }
        }
        due(open.equals(FACE), "the public methods are " + open);
        for (Method method : WindowLines.class.getDeclaredMethods()) {
            due(Modifier.isPublic(method.getModifiers()) || !names.contains(method.getName()),
                    "a private method bears the name " + method.getName());
        }
        Constructor<?>[] constructors = WindowLines.class.getDeclaredConstructors();
        due(constructors.length == 1 && constructors[0].getParameterCount() == 0
                && Modifier.isPublic(constructors[0].getModifiers()), "the constructors are not as due");
        Set<String> constants = new TreeSet<>();
        for (Field field : WindowLines.class.getDeclaredFields()) {
            checkField(field);
            if (Modifier.isPublic(field.getModifiers())) {
                constants.add(field.getName());
            } else {
                due(Modifier.isPrivate(field.getModifiers()), field.getName() + " is neither public nor private");
            }
        }
        due(constants.equals(CONSTANTS), "the public constants are " + constants);
    }

    private static String described(Method method) {
        StringBuilder text = new StringBuilder();
        text.append(method.getReturnType().getName()).append(' ').append(method.getName()).append('(');
        for (Class<?> type : method.getParameterTypes()) {
            text.append(text.charAt(text.length() - 1) == '(' ? "" : ",").append(type.getName());
        }
        return text.append(')').toString();
    }

    private static void checkField(Field field) {
        if (Modifier.isStatic(field.getModifiers())) {
            Class<?> type = field.getType();
            due(Modifier.isFinal(field.getModifiers()), field.getName() + " is static and not final");
            due(type.isPrimitive() || type == String.class, field.getName() + " is no constant");
        }
    }

    private static void checkNestedClasses() {
        Class<?>[] nested = WindowLines.class.getDeclaredClasses();
        due(nested.length < MOST_CLASSES, "too many classes: " + nested.length);
        for (Class<?> type : nested) {
            int modifiers = type.getModifiers();
            due(Modifier.isStatic(modifiers), type + " is not static");
            due(!Modifier.isPublic(modifiers) && !Modifier.isProtected(modifiers), type + " is open");
            int fields = 0;
            for (Field field : type.getDeclaredFields()) {
                checkField(field);
                fields += Modifier.isStatic(field.getModifiers()) ? 0 : 1;
            }
            due(fields <= MOST_FIELDS, type + " has too many fields: " + fields);
            due(type.getDeclaredClasses().length == 0, type + " has classes inside");
        }
    }

    /** A body in which no line ends a block at the depth of a class is one method's. */
    private static void checkMethodLengths(String[] lines) {
        int start = -1;
        int depth = 0;
        for (int i = 0; i < lines.length; i++) {
            boolean opensMethod = lines[i].contains("(") && lines[i].endsWith("{");
            if (start < 0 && opensMethod) {
                start = i;
                depth = 0;
            }
            depth += braces(lines[i]);
            if (start >= 0 && depth == 0) {
                due(i - start < LONGEST_METHOD, "a method is too long: line " + (start + 1));
                start = -1;
            }
        }
    }

    private static int braces(String line) {
        int sum = 0;
        for (char sign : line.toCharArray()) {
            sum += sign == '{' ? 1 : sign == '}' ? -1 : 0;
        }
        return sum;
    }

    private static void checkObjectsAreMadeInConstructors(String[] lines) {
        boolean inConstructor = false;
        int depth = 0;
        for (int i = 0; i < lines.length; i++) {
            if (lines[i].matches("\\s+(public )?[A-Z]\\w*\\(.*\\) \\{")) {
                inConstructor = true;
                depth = 0;
            }
            depth += braces(lines[i]);
            due(inConstructor || !lines[i].matches(".*\\bnew\\b.*"), "something is made outside a constructor: line " + (i + 1));
            inConstructor = inConstructor && depth > 0;
        }
    }

    /** All calls of a run share one room, so calls must not make objects. */
    private static void checkCallsMakeNothing() {
        var threads = (com.sun.management.ThreadMXBean) ManagementFactory.getThreadMXBean();
        WindowLines x = new WindowLines();
        callEverything(x);
        long before = threads.getCurrentThreadAllocatedBytes();
        for (int round = 0; round < 50; round++) {
            callEverything(x);
        }
        long made = threads.getCurrentThreadAllocatedBytes() - before;
        due(made < 2000, "50 rounds of all calls made " + made + " bytes");
    }

    private static void callEverything(WindowLines x) {
        x.put(0, 2, 300);
        x.put(1, 1, 300);
        x.put(2, 0, 300);
        x.change(1, 200);
        x.setHeight(50);
        x.setWidth(20);
        x.scroll(300);
        x.jump(500);
        x.goTo(0);
        x.append('t');
        x.append('o');
        x.append('0');
        x.append(';');
        x.run();
        x.append('?');
        x.run();
        x.clearText();
        for (int what = 0; what <= 13; what++) {
            x.count(what);
            x.line(0, what);
        }
        x.seen(0);
        x.at(0);
        x.share();
        x.trueSum(0, 2);
        x.scrollsTo(2, 5);
        x.measuredBy(1000);
        x.undo();
        x.cut(0);
    }
}
