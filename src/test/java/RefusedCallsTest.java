import java.util.ArrayList;
import java.util.List;

/**
 * Every call that is refused or that only looks: its answer, which of several codes comes first,
 * and that nothing changes by it (the lines, the window, the text and the history).
 */
public final class RefusedCallsTest {
    private static final int INVALID = -100001;
    private static final int ILLEGAL = -100002;
    private static final int FULL = -100003;
    private static final int NONE = -100009;
    private static final int LEAST = Integer.MIN_VALUE;
    private static final int MOST = Integer.MAX_VALUE;
    private static final int TEXT = 0;
    private static final int HEADING = 1;
    private static final int PICTURE = 2;
    private static final int ACTIONS = 11;

    private static int wrong = 0;
    private static int checks = 0;

    private interface Call {
        int on(WindowLines x);
    }

    private interface Recipe {
        WindowLines make();
    }

    public static void main(String[] args) {
        linesAreNamedWrongly();
        numbersAreOutOfRange();
        programsFail();
        thereIsNoLine();
        thereIsNoRoom();
        thereIsNoState();
        thereIsNoSuchValue();
        looksChangeNothing();
        System.out.println("refused calls: " + checks + " checks, " + wrong + " wrong");
        if (wrong != 0) {
            System.exit(1);
        }
    }

    // ---- what is compared

    private static void unchanged(Recipe recipe, String call, int want, Call done) {
        WindowLines x = recipe.make();
        int got = done.on(x);
        checks++;
        if (got != want) {
            wrong++;
            System.out.println(call + " answered " + got + ", due is " + want);
        }
        if (!everythingOf(x).equals(everythingOf(recipe.make()))) {
            wrong++;
            System.out.println(call + " changed something");
        }
        for (int action = 0; action < ACTIONS; action++) {
            WindowLines after = recipe.make();
            done.on(after);
            if (!lookAfter(action, after).equals(lookAfter(action, recipe.make()))) {
                wrong++;
                System.out.println(call + " changed what action " + action + " does after it");
            }
        }
    }

    /** What an action answers and leaves: nothing that was only tried before it may come up again. */
    private static List<Integer> lookAfter(int action, WindowLines x) {
        List<Integer> answers = new ArrayList<>();
        answers.add(act(action, x));
        lookAt(x, answers);
        return answers;
    }

    private static int act(int action, WindowLines x) {
        switch (action) {
            case 0: return x.put(0, HEADING, 77);
            case 1: return x.cut(0);
            case 2: return x.change(1, 300);
            case 3: return x.setHeight(150);
            case 4: return x.setWidth(20);
            case 5: return x.scroll(20);
            case 6: return x.jump(400);
            case 7: return x.goTo(0);
            case 8: return x.scrollsTo(3, 7);
            case 9: return x.measuredBy(700);
            default: return x.append('?') + x.run();
        }
    }

    /** All that can be asked of an object, of the states that undo brings back, and of its text. */
    private static List<Integer> everythingOf(WindowLines x) {
        List<Integer> answers = new ArrayList<>();
        lookAt(x, answers);
        int left = x.undo();
        while (left >= 0) {
            lookAt(x, answers);
            answers.add(left);
            left = x.undo();
        }
        answers.add(left);
        answers.add(x.run());
        lookAt(x, answers);
        return answers;
    }

    /** Few enough questions that the fullest object gets less than 512 calls in all. */
    private static void lookAt(WindowLines x, List<Integer> answers) {
        for (int what = 0; what <= 13; what++) {
            answers.add(x.count(what));
        }
        answers.add(x.share());
        int lines = x.count(0);
        for (int line = 0; line < lines; line++) {
            if (lines <= 6 || line == 0 || line == 50 || line == lines - 1) {
                for (int what = 0; what <= 6; what++) {
                    answers.add(x.line(line, what));
                }
            }
        }
    }

    // ---- objects

    private static void type(WindowLines x, String text) {
        for (int i = 0; i < text.length(); i++) {
            x.append(text.charAt(i));
        }
    }

    private static WindowLines empty() {
        return new WindowLines();
    }

    private static WindowLines emptyWithText() {
        WindowLines x = new WindowLines();
        type(x, "put 0 2 94;");
        return x;
    }

    /** Five lines of 100, 28, 64, 206 and a guessed height, five states, and a text that can be run. */
    private static WindowLines few() {
        WindowLines x = new WindowLines();
        x.put(0, PICTURE, 94);
        x.put(1, TEXT, 50);
        x.put(2, HEADING, 90);
        x.put(3, PICTURE, 200);
        x.put(4, TEXT, 400);
        x.scroll(60);
        type(x, "to 1;down 7;");
        return x;
    }

    /** 100 lines, and a text of 100 characters. */
    private static WindowLines full() {
        WindowLines x = new WindowLines();
        for (int i = 0; i < 100; i++) {
            x.put(i, i % 3, i);
        }
        for (int i = 0; i < 20; i++) {
            type(x, "to 7;");
        }
        return x;
    }

    private static WindowLines fewWithText(String text) {
        WindowLines x = few();
        x.clearText();
        type(x, text);
        return x;
    }

    // ---- INVALID_ARGUMENT

    /** "An argument ... names something that does not exist." */
    private static void linesAreNamedWrongly() {
        for (int at : new int[] {-1, 6, 100, LEAST, MOST}) {
            unchanged(RefusedCallsTest::few, "put(" + at + ", 0, 0)", INVALID, x -> x.put(at, 0, 0));
        }
        for (int at : new int[] {-1, 5, 100, LEAST, MOST}) {
            unchanged(RefusedCallsTest::few, "cut(" + at + ")", INVALID, x -> x.cut(at));
            unchanged(RefusedCallsTest::few, "change(" + at + ", 0)", INVALID, x -> x.change(at, 0));
            unchanged(RefusedCallsTest::few, "goTo(" + at + ")", INVALID, x -> x.goTo(at));
            unchanged(RefusedCallsTest::few, "line(" + at + ", 0)", INVALID, x -> x.line(at, 0));
            unchanged(RefusedCallsTest::few, "trueSum(0, " + at + ")", INVALID, x -> x.trueSum(0, at));
            unchanged(RefusedCallsTest::few, "trueSum(" + at + ", 4)", INVALID, x -> x.trueSum(at, 4));
            unchanged(RefusedCallsTest::few, "trueSum of " + at + " alone", INVALID, x -> x.trueSum(at, at));
            unchanged(RefusedCallsTest::few, "scrollsTo(" + at + ", 1)", INVALID, x -> x.scrollsTo(at, 1));
        }
        for (int line : new int[] {-1, 100, LEAST, MOST}) {
            unchanged(RefusedCallsTest::full, "100 lines: cut(" + line + ")", INVALID, x -> x.cut(line));
            unchanged(RefusedCallsTest::full, "100 lines: change(" + line + ", 0)", INVALID, x -> x.change(line, 0));
            unchanged(RefusedCallsTest::full, "100 lines: goTo(" + line + ")", INVALID, x -> x.goTo(line));
            unchanged(RefusedCallsTest::full, "100 lines: line(" + line + ", 0)", INVALID, x -> x.line(line, 0));
            unchanged(RefusedCallsTest::full, "100 lines: trueSum(99, " + line + ")", INVALID, x -> x.trueSum(99, line));
            unchanged(RefusedCallsTest::full, "100 lines: scrollsTo(" + line + ", 1)", INVALID, x -> x.scrollsTo(line, 1));
        }
        unchanged(RefusedCallsTest::few, "trueSum(3, 2)", INVALID, x -> x.trueSum(3, 2));
        unchanged(RefusedCallsTest::few, "trueSum(4, 0)", INVALID, x -> x.trueSum(4, 0));
    }

    /** "An argument is out of range." */
    private static void numbersAreOutOfRange() {
        for (int kind : new int[] {-1, 3, LEAST, MOST}) {
            unchanged(RefusedCallsTest::few, "put(0, " + kind + ", 0)", INVALID, x -> x.put(0, kind, 0));
        }
        for (int length : new int[] {-1, 401, LEAST, MOST}) {
            for (int kind = TEXT; kind <= PICTURE; kind++) {
                int same = kind;
                unchanged(RefusedCallsTest::few, "put(0, " + kind + ", " + length + ")", INVALID,
                        x -> x.put(0, same, length));
            }
            for (int line = 0; line < 5; line++) {
                int same = line;
                unchanged(RefusedCallsTest::few, "change(" + line + ", " + length + ")", INVALID,
                        x -> x.change(same, length));
            }
        }
        for (int height : new int[] {19, 601, 0, -1, -100, LEAST, MOST}) {
            unchanged(RefusedCallsTest::few, "setHeight(" + height + ")", INVALID, x -> x.setHeight(height));
        }
        for (int width : new int[] {4, 81, 0, -1, -40, LEAST, MOST}) {
            unchanged(RefusedCallsTest::few, "setWidth(" + width + ")", INVALID, x -> x.setWidth(width));
        }
        for (int dots : new int[] {-10000, 10000, LEAST, MOST}) {
            unchanged(RefusedCallsTest::few, "scroll(" + dots + ")", INVALID, x -> x.scroll(dots));
            unchanged(RefusedCallsTest::few, "scrollsTo(0, " + dots + ")", INVALID, x -> x.scrollsTo(0, dots));
        }
        unchanged(RefusedCallsTest::few, "scrollsTo(0, 0)", INVALID, x -> x.scrollsTo(0, 0));
        unchanged(RefusedCallsTest::few, "scrollsTo(4, 0)", INVALID, x -> x.scrollsTo(4, 0));
        for (int share : new int[] {-1, 1001, LEAST, MOST}) {
            unchanged(RefusedCallsTest::few, "jump(" + share + ")", INVALID, x -> x.jump(share));
            unchanged(RefusedCallsTest::few, "measuredBy(" + share + ")", INVALID, x -> x.measuredBy(share));
        }
        for (int character : new int[] {0, 256, -1, 256 + 'a', 65536 + 'a', LEAST, MOST}) {
            unchanged(RefusedCallsTest::few, "append(" + character + ")", INVALID, x -> x.append(character));
        }
        for (int what : new int[] {-1, 14, LEAST, MOST}) {
            unchanged(RefusedCallsTest::few, "count(" + what + ")", INVALID, x -> x.count(what));
        }
        for (int what : new int[] {-1, 7, LEAST, MOST}) {
            unchanged(RefusedCallsTest::few, "line(0, " + what + ")", INVALID, x -> x.line(0, what));
            unchanged(RefusedCallsTest::few, "line(4, " + what + ")", INVALID, x -> x.line(4, what));
        }
        for (int y : new int[] {-1, 100, LEAST, MOST}) {
            unchanged(RefusedCallsTest::few, "seen(" + y + ")", INVALID, x -> x.seen(y));
        }
        for (int y : new int[] {-1, -100, LEAST}) {
            unchanged(RefusedCallsTest::few, "at(" + y + ")", INVALID, x -> x.at(y));
        }
    }

    // ---- failing programs

    private static void failing(String text, int want) {
        unchanged(() -> fewWithText(text), "run() of \"" + text + "\"", want, x -> x.run());
    }

    /** "If a program fails, nothing that it has done stays"; "if it fails, the text is kept." */
    private static void programsFail() {
        failing("down 5;cut 5;", -1007);
        failing("cut 0;cut 0;cut 0;cut 0;cut 0;down 0;", -1030);
        failing("put 0 0 400;put 1 1 9;to 7;", -1022);
        failing("put 0 0 400;down 9999;up 9999;share 1001;", -1030);
        failing("share 1000;to 0;to 1", -1020);
        failing("to 4;cut 4;?", -1011);
        failing("to 4;cut 4;to 01;", -1014);
        failing("put 0 0 0;put 0 3 0;", -1010);
        failing("put 0 0 0;put 0 0 401;", -1010);
        failing("put 0 0 0;put 7 0 0;", -1010);
        failing("?", -1000);
        failing("down", -1004);
    }

    // ---- ILLEGAL_STATE

    /** "ILLEGAL_STATE if there is no line"; what names a line is invalid then. */
    private static void thereIsNoLine() {
        Recipe none = RefusedCallsTest::emptyWithText;
        for (int dots : new int[] {-9999, -1, 0, 1, 9999}) {
            unchanged(none, "without lines: scroll(" + dots + ")", ILLEGAL, x -> x.scroll(dots));
        }
        for (int share : new int[] {0, 500, 1000}) {
            unchanged(none, "without lines: jump(" + share + ")", ILLEGAL, x -> x.jump(share));
        }
        unchanged(none, "invalid comes before illegal: scroll(10000)", INVALID, x -> x.scroll(10000));
        unchanged(none, "invalid comes before illegal: scroll(-10000)", INVALID, x -> x.scroll(-10000));
        unchanged(none, "invalid comes before illegal: jump(1001)", INVALID, x -> x.jump(1001));
        unchanged(none, "invalid comes before illegal: jump(-1)", INVALID, x -> x.jump(-1));
        for (int line : new int[] {-1, 0, 1, LEAST, MOST}) {
            unchanged(none, "without lines: cut(" + line + ")", INVALID, x -> x.cut(line));
            unchanged(none, "without lines: change(" + line + ", 0)", INVALID, x -> x.change(line, 0));
            unchanged(none, "without lines: goTo(" + line + ")", INVALID, x -> x.goTo(line));
            unchanged(none, "without lines: line(" + line + ", 0)", INVALID, x -> x.line(line, 0));
            unchanged(none, "without lines: trueSum(0, " + line + ")", INVALID, x -> x.trueSum(0, line));
            unchanged(none, "without lines: trueSum(" + line + ", 0)", INVALID, x -> x.trueSum(line, 0));
            unchanged(none, "without lines: scrollsTo(" + line + ", 1)", INVALID, x -> x.scrollsTo(line, 1));
        }
        unchanged(none, "without lines: put(1, 0, 0)", INVALID, x -> x.put(1, 0, 0));
        unchanged(none, "without lines: put(-1, 0, 0)", INVALID, x -> x.put(-1, 0, 0));
        unchanged(none, "without lines: put(0, 3, 0)", INVALID, x -> x.put(0, 3, 0));
        unchanged(none, "without lines: put(0, 0, 401)", INVALID, x -> x.put(0, 0, 401));
    }

    /** "ILLEGAL_STATE if it is empty." */
    private static void thereIsNoState() {
        unchanged(RefusedCallsTest::empty, "undo() of a new object", ILLEGAL, x -> x.undo());
        Recipe used = () -> {
            WindowLines x = few();
            for (int i = 0; i < 5; i++) {
                x.undo();
            }
            return x;
        };
        unchanged(used, "undo() after five", ILLEGAL, x -> x.undo());
        unchanged(used, "undo() after five, again", ILLEGAL, x -> x.undo() == ILLEGAL ? x.undo() : 0);
    }

    // ---- CAPACITY_EXCEEDED

    /** "CAPACITY_EXCEEDED if there are 100 lines", or 100 characters; INVALID_ARGUMENT comes first. */
    private static void thereIsNoRoom() {
        Recipe full = RefusedCallsTest::full;
        for (int at : new int[] {0, 1, 50, 99, 100}) {
            unchanged(full, "100 lines: put(" + at + ", 0, 0)", FULL, x -> x.put(at, 0, 0));
        }
        unchanged(full, "100 lines: put(100, 2, 400)", FULL, x -> x.put(100, 2, 400));
        unchanged(full, "100 lines: put(101, 0, 0)", INVALID, x -> x.put(101, 0, 0));
        unchanged(full, "100 lines: put(-1, 0, 0)", INVALID, x -> x.put(-1, 0, 0));
        unchanged(full, "100 lines: put(0, -1, 0)", INVALID, x -> x.put(0, -1, 0));
        unchanged(full, "100 lines: put(0, 3, 0)", INVALID, x -> x.put(0, 3, 0));
        unchanged(full, "100 lines: put(0, 0, -1)", INVALID, x -> x.put(0, 0, -1));
        unchanged(full, "100 lines: put(0, 0, 401)", INVALID, x -> x.put(0, 0, 401));
        for (int character : new int[] {1, ' ', ';', 'a', 255}) {
            unchanged(full, "100 characters: append(" + character + ")", FULL, x -> x.append(character));
        }
        unchanged(full, "100 characters: append(0)", INVALID, x -> x.append(0));
        unchanged(full, "100 characters: append(256)", INVALID, x -> x.append(256));
        Recipe fullWithProgram = () -> {
            WindowLines x = full();
            x.clearText();
            type(x, "cut 0;put 0 0 0;put 0 0 0;");
            return x;
        };
        unchanged(fullWithProgram, "100 lines: a program that puts", -1016, x -> x.run());
    }

    // ---- NONE

    /** "NONE is no error, and it is returned only if no error condition applies." */
    private static void thereIsNoSuchValue() {
        Recipe none = RefusedCallsTest::emptyWithText;
        unchanged(none, "without lines: count(2)", NONE, x -> x.count(2));
        unchanged(none, "without lines: count(3)", NONE, x -> x.count(3));
        unchanged(none, "without lines: seen(0)", NONE, x -> x.seen(0));
        unchanged(none, "without lines: seen(99)", NONE, x -> x.seen(99));
        unchanged(none, "invalid comes before none: seen(100)", INVALID, x -> x.seen(100));
        unchanged(none, "invalid comes before none: seen(-1)", INVALID, x -> x.seen(-1));
        unchanged(none, "without lines: at(0)", NONE, x -> x.at(0));
        unchanged(none, "without lines: at(MAX)", NONE, x -> x.at(MOST));
        unchanged(none, "invalid comes before none: at(-1)", INVALID, x -> x.at(-1));
        Recipe few = RefusedCallsTest::few;
        // 100 + 28 + 64 are measured; line 3 begins below the bottom (160), so 100 and 28 are guesses.
        unchanged(few, "the lines have 320 dots: at(319)", 4, x -> x.at(319));
        unchanged(few, "the lines have 320 dots: at(320)", NONE, x -> x.at(320));
        unchanged(few, "the lines have 320 dots: at(MAX)", NONE, x -> x.at(MOST));
        unchanged(few, "line 4 is far: scrollsTo(4, 1)", NONE, x -> x.scrollsTo(4, 1));
        unchanged(few, "line 4 is not above: scrollsTo(4, -1)", NONE, x -> x.scrollsTo(4, -1));
        unchanged(few, "invalid comes before none: scrollsTo(4, -10000)", INVALID, x -> x.scrollsTo(4, -10000));
        unchanged(few, "invalid comes before none: scrollsTo(5, -1)", INVALID, x -> x.scrollsTo(5, -1));
    }

    // ---- looking

    /** "What could be, which changes nothing", and what is only looked at. */
    private static void looksChangeNothing() {
        Recipe few = RefusedCallsTest::few;
        unchanged(few, "scrollsTo(4, 9999)", 1, x -> x.scrollsTo(4, 9999));
        unchanged(few, "scrollsTo(3, 33)", 1, x -> x.scrollsTo(3, 33));
        unchanged(few, "scrollsTo(3, 32)", 2, x -> x.scrollsTo(3, 32));
        unchanged(few, "scrollsTo(0, -9999)", 0, x -> x.scrollsTo(0, -9999));
        unchanged(few, "measuredBy(1000)", 1, x -> x.measuredBy(1000));
        unchanged(few, "measuredBy(0)", 0, x -> x.measuredBy(0));
        unchanged(few, "trueSum(0, 4)", 100 + 28 + 64 + 206 + 124, x -> x.trueSum(0, 4));
        unchanged(few, "seen(0)", 0, x -> x.seen(0));
        unchanged(few, "seen(99)", 2, x -> x.seen(99));
        unchanged(few, "at(0)", 0, x -> x.at(0));
        unchanged(few, "share()", 272, x -> x.share());
        unchanged(few, "count(13)", 12, x -> x.count(13));
        unchanged(few, "line(4, 5)", 124, x -> x.line(4, 5));
        Recipe none = RefusedCallsTest::emptyWithText;
        unchanged(none, "without lines: measuredBy(0)", 0, x -> x.measuredBy(0));
        unchanged(none, "without lines: measuredBy(1000)", 0, x -> x.measuredBy(1000));
        unchanged(none, "without lines: measuredBy(1001)", INVALID, x -> x.measuredBy(1001));
        unchanged(none, "without lines: share()", 0, x -> x.share());
        unchanged(none, "without lines: undo()", ILLEGAL, x -> x.undo());
    }
}
