/**
 * A test for each sentence of the document that names a boundary: the least and the greatest value
 * that is allowed, and the last case on either side of it. What is refused is in RefusedCallsTest.
 */
public final class BoundariesTest {
    private static final int INVALID = -100001;
    private static final int ILLEGAL = -100002;
    private static final int FULL = -100003;
    private static final int NONE = -100009;
    private static final int TEXT = 0;
    private static final int HEADING = 1;
    private static final int PICTURE = 2;
    private static final int LINES = 0;
    private static final int MEASURED = 1;
    private static final int ANCHOR = 2;
    private static final int SHIFT = 3;
    private static final int TOTAL = 4;
    private static final int TOP = 5;
    private static final int HEIGHT = 6;
    private static final int WIDTH = 7;
    private static final int SHOWN = 11;
    private static final int STATES = 12;
    private static final int LENGTH = 13;

    private static int wrong = 0;
    private static int checks = 0;

    private interface Action {
        int on(WindowLines x);
    }

    public static void main(String[] args) {
        fiveHundredAndTwelveCalls();
        lines();
        window();
        settling();
        putAndCut();
        numbersOfLines();
        change();
        setHeightAndSetWidth();
        scroll();
        jumpAndGoTo();
        undo();
        text();
        programs();
        looking();
        forecasts();
        System.out.println("boundaries: " + checks + " checks, " + wrong + " wrong");
        if (wrong != 0) {
            System.exit(1);
        }
    }

    private static void due(String call, long got, long want) {
        checks++;
        if (got != want) {
            wrong++;
            System.out.println(call + " answered " + got + ", due is " + want);
        }
    }

    private static void dueWindow(String when, WindowLines x, int anchor, int shift, int measured) {
        due(when + ": anchor", x.count(ANCHOR), anchor);
        due(when + ": shift", x.count(SHIFT), shift);
        due(when + ": measured lines", x.count(MEASURED), measured);
    }

    /** Pictures of these heights (6 to 406), put in one below the other into a window. */
    private static WindowLines picturesIn(int window, int... heights) {
        WindowLines x = new WindowLines();
        if (window != 100) {
            x.setHeight(window);
        }
        for (int i = 0; i < heights.length; i++) {
            x.put(i, PICTURE, heights[i] - 6);
        }
        return x;
    }

    private static WindowLines pictures(int... heights) {
        return picturesIn(100, heights);
    }

    private static WindowLines at(WindowLines x, int anchor, int dots) {
        x.goTo(anchor);
        if (dots != 0) {
            x.scroll(dots);
        }
        return x;
    }

    private static void type(WindowLines x, String text) {
        for (int i = 0; i < text.length(); i++) {
            x.append(text.charAt(i));
        }
    }

    // ---- What it is

    /** "An object is used for at most 512 calls after it has been made." */
    private static void fiveHundredAndTwelveCalls() {
        WindowLines x = new WindowLines();
        x.put(0, PICTURE, 400);
        for (int call = 2; call <= 509; call++) {
            due("call " + call, x.scroll(call % 2 == 0 ? 7 : -7), 0);
        }
        due("call 510", x.append('a'), 1);
        due("call 511", x.undo(), 4);
        due("call 512", x.count(SHIFT), 7);
    }

    // ---- Terms: Lines

    private static void lines() {
        atMostHundredLines();
        trueHeights();
        rowsAreRoundedUp();
        guesses();
        topsAndTotal();
    }

    /** "There are at most 100 lines, numbered from 0 from above." */
    private static void atMostHundredLines() {
        WindowLines x = new WindowLines();
        for (int i = 0; i < 99; i++) {
            x.put(0, TEXT, 0);
        }
        due("line(99, 0) of 99", x.line(99, 0), INVALID);
        due("goTo(99) of 99", x.goTo(99), INVALID);
        due("the 100th line, the last one", x.put(99, HEADING, 400), 99 * 16 + 20);
        due("lines", x.count(LINES), 100);
        due("kind of line 99", x.line(99, 0), HEADING);
        due("kind of line 98", x.line(98, 0), TEXT);
        due("line 100", x.line(100, 0), INVALID);
        due("a line too many", x.put(100, TEXT, 0), FULL);
        due("trueSum of all", x.trueSum(0, 99), 99 * 16 + 190);
        due("goTo(99)", x.goTo(99), 99);
        due("cut(99)", x.cut(99), 99);
        due("put where there is room again", x.put(0, PICTURE, 0), 99 * 16 + 20);
        due("a line too many again", x.put(0, TEXT, 0), FULL);
        due("cut(0)", x.cut(0), 99);
        WindowLines y = new WindowLines();
        for (int i = 0; i < 100; i++) {
            y.put(0, PICTURE, 400);
        }
        due("the greatest pictures", y.trueSum(0, 99), 40600);
        due("the end of the greatest", y.jump(1000), 99);
        due("share() there", y.share(), 1000);
        WindowLines z = new WindowLines();
        z.setWidth(5);
        for (int i = 0; i < 100; i++) {
            z.put(i, HEADING, 400);
        }
        due("the greatest headings", z.count(TOTAL), 145000);
        due("the last dot", z.at(144999), 99);
        due("behind the last dot", z.at(145000), NONE);
        due("the end of the greatest headings", z.jump(1000), 99);
        due("top there", z.count(TOP), 144900);
        due("share() there", z.share(), 1000);
        for (int cut = 99; cut >= 0; cut--) {
            due("cut(0)", z.cut(0), cut);
        }
        dueWindow("all are cut", z, NONE, NONE, 0);
    }

    private static int trueHeight(int kind, int length, int width) {
        WindowLines x = new WindowLines();
        x.setWidth(width);
        x.put(0, kind, length);
        return x.line(0, 5);
    }

    /** "A length of 0 to 400"; "2 picture: its length, plus 6 (whatever the width is)." */
    private static void trueHeights() {
        due("text of 0", trueHeight(TEXT, 0, 40), 16);
        due("text of 400", trueHeight(TEXT, 400, 40), 124);
        due("heading of 0", trueHeight(HEADING, 0, 40), 28);
        due("heading of 400", trueHeight(HEADING, 400, 40), 190);
        due("picture of 0", trueHeight(PICTURE, 0, 40), 6);
        due("picture of 400", trueHeight(PICTURE, 400, 40), 406);
        due("picture of 400, width 5", trueHeight(PICTURE, 400, 5), 406);
        due("picture of 400, width 80", trueHeight(PICTURE, 400, 80), 406);
        due("picture of 1, width 5", trueHeight(PICTURE, 1, 5), 7);
        due("text of 400, width 5", trueHeight(TEXT, 400, 5), 964);
        due("text of 400, width 80", trueHeight(TEXT, 400, 80), 64);
        due("heading of 400, width 5", trueHeight(HEADING, 400, 5), 1450);
        due("heading of 400, width 80", trueHeight(HEADING, 400, 80), 100);
        due("text of 0, width 5", trueHeight(TEXT, 0, 5), 16);
        due("heading of 0, width 80", trueHeight(HEADING, 0, 80), 28);
    }

    /** "Its length divided by the width ..., rounded up, but at least 1." */
    private static void rowsAreRoundedUp() {
        for (int width : new int[] {5, 6, 39, 40, 41, 79, 80}) {
            due("text of 1, width " + width, trueHeight(TEXT, 1, width), 16);
            due("text as long as the width " + width, trueHeight(TEXT, width, width), 16);
            due("longer by 1 than the width " + width, trueHeight(TEXT, width + 1, width), 28);
            due("twice the width " + width, trueHeight(TEXT, 2 * width, width), 28);
            due("a row of heading, width " + width, trueHeight(HEADING, width, width), 28);
            due("two rows of heading, width " + width, trueHeight(HEADING, width + 1, width), 46);
        }
        due("399 by 5", trueHeight(TEXT, 399, 5), 964);
        due("396 by 5", trueHeight(TEXT, 396, 5), 964);
        due("395 by 5", trueHeight(TEXT, 395, 5), 952);
    }

    /** "... divided by their number, or 20 if there are none"; "the guess of its kind as it is now." */
    private static void guesses() {
        WindowLines x = new WindowLines();
        x.put(0, TEXT, 400);
        x.put(1, PICTURE, 300);
        due("no picture is measured", x.line(1, 2), 20);
        due("not measured", x.line(1, 3), 0);
        due("its true height all the same", x.line(1, 5), 306);
        x.scroll(30);
        due("it begins above the bottom and is measured", x.line(1, 2), 306);
        due("the guess of a single one", x.count(10), 306);
        x.scroll(-30);
        due("it stays measured beyond the window", x.line(1, 3), 1);
        x.put(2, PICTURE, 5);
        due("guessed by the only one that is measured", x.line(2, 2), 306);
        x.cut(1);
        due("the only one is cut", x.line(1, 2), 20);
        due("guess", x.count(10), 20);
        x.undo();
        due("guess after undo", x.count(10), 306);
        x.put(1, PICTURE, 95);
        due("not yet measured", x.line(1, 2), 306);
        x.scroll(30);
        due("measured", x.line(1, 2), 101);
        due("(306 + 101) / 2 rounded down", x.line(3, 2), 203);
        x.change(2, 0);
        due("what is changed counts no more", x.count(10), 101);
        due("nor do other kinds", x.count(8), 124);
        due("no heading at all", x.count(9), 20);
        x.setWidth(40);
        due("after a width: only what is in the window", x.count(10), 101);
        due("lines measured", x.count(MEASURED), 2);
    }

    /** "The top of a line is the sum of the heights of all lines before it; the total ... of all." */
    private static void topsAndTotal() {
        WindowLines x = new WindowLines();
        due("total without lines", x.count(TOTAL), 0);
        due("top without lines", x.count(TOP), 0);
        due("total of one", x.put(0, PICTURE, 0), 6);
        due("top of line 0", x.line(0, 4), 0);
        x.put(1, PICTURE, 200);
        x.put(2, PICTURE, 300);
        due("top of line 2", x.line(2, 4), 212);
        due("total with a guess, (6 + 206) / 2", x.count(TOTAL), 318);
        due("its height", x.line(2, 2), 106);
    }

    // ---- Terms: Window and anchor

    /** "A line is in the window if it has at least one dot between the top and the bottom." */
    private static void window() {
        WindowLines x = pictures(50, 50, 50, 50);
        due("the last dot above the bottom is of line 1", x.count(SHOWN), 2);
        x.scroll(1);
        due("line 0 without a dot, line 2 with one", x.count(SHOWN), 3);
        x.scroll(48);
        due("the last dot of line 0", x.count(SHOWN), 3);
        x.scroll(1);
        due("line 0 ends at the top", x.count(SHOWN), 2);
        WindowLines one = pictures(406);
        due("a line that is higher than the window", one.count(SHOWN), 1);
        one.scroll(153);
        due("in its middle", one.count(SHOWN), 1);
        due("its top from there", one.line(0, 6), -153);
        due("without lines", new WindowLines().count(SHOWN), 0);
        WindowLines low = pictures(6, 6);
        due("all lines and space below them", low.count(SHOWN), 2);
        WindowLines many = new WindowLines();
        many.setHeight(600);
        for (int i = 0; i < 100; i++) {
            many.put(0, PICTURE, 0);
        }
        due("100 lines in a window", many.count(SHOWN), 100);
        due("all are measured", many.count(MEASURED), 100);
        many.setHeight(599);
        due("the last one by five dots", many.count(SHOWN), 100);
        many.setHeight(595);
        due("the last one by a dot", many.count(SHOWN), 100);
        many.setHeight(594);
        due("the last one begins at the bottom", many.count(SHOWN), 99);
    }

    // ---- Terms: Settling

    private static void settling() {
        settlingWithoutLines();
        settlingDownwards();
        settlingWhatIsSeen();
        settlingAtTheEnd();
        settlingUpwards();
    }

    /** "Nothing without lines." */
    private static void settlingWithoutLines() {
        WindowLines x = new WindowLines();
        x.setHeight(20);
        x.setWidth(5);
        dueWindow("settled without lines", x, NONE, NONE, 0);
        x.put(0, PICTURE, 0);
        x.cut(0);
        dueWindow("settled after the last line is cut", x, NONE, NONE, 0);
        due("top", x.count(TOP), 0);
        due("lines in the window", x.count(SHOWN), 0);
    }

    /** "As long as the shift is at least the height of the anchor, and there is a line behind it." */
    private static void settlingDownwards() {
        WindowLines x = pictures(50, 200, 200);
        x.scroll(49);
        dueWindow("the shift is less by 1 than the height", x, 0, 49, 2);
        x.scroll(1);
        dueWindow("the shift is the height", x, 1, 0, 2);
        WindowLines one = pictures(150);
        one.scroll(150);
        dueWindow("no line behind it", one, 0, 50, 1);
        WindowLines low = picturesIn(20, 50, 10, 12, 300, 300);
        low.scroll(59);
        dueWindow("measured as it is passed, so line 1 is not", low, 1, 9, 4);
        low.undo();
        low.scroll(60);
        dueWindow("line 1 is passed by its true height", low, 2, 0, 4);
        low.undo();
        low.scroll(71);
        dueWindow("the last dot of line 2", low, 2, 11, 4);
        low.undo();
        low.scroll(72);
        dueWindow("line 2 is passed", low, 3, 0, 4);
        due("line 4 is guessed", low.line(4, 3), 0);
    }

    /** "... measured one by one from above, as long as they begin above the bottom of the window." */
    private static void settlingWhatIsSeen() {
        dueWindow("line 1 begins above the bottom by a dot", pictures(99, 50), 0, 0, 2);
        dueWindow("line 1 begins at the bottom", pictures(100, 50), 0, 0, 1);
        WindowLines x = pictures(100, 50, 60);
        x.scroll(1);
        dueWindow("line 1 begins above the bottom", x, 0, 1, 2);
        x.scroll(49);
        dueWindow("line 2 begins at the bottom", x, 0, 50, 2);
        x.scroll(1);
        dueWindow("line 2 begins above the bottom", x, 0, 51, 3);
        WindowLines low = pictures(50, 10, 10, 400);
        low.setWidth(40);
        dueWindow("by what line 1 is measured, not by its guess", low, 0, 0, 4);
        WindowLines high = pictures(6, 94, 50);
        dueWindow("line 2 begins at the bottom", high, 0, 0, 2);
        high.setWidth(40);
        dueWindow("by what line 1 is measured, though its guess is 6", high, 0, 0, 2);
    }

    /** "... and ends above it, the shift becomes less by as much as the bottom is below this end." */
    private static void settlingAtTheEnd() {
        dueWindow("ends at the bottom", at(pictures(100, 60, 40), 1, 0), 1, 0, 3);
        dueWindow("ends above it by a dot", at(pictures(100, 60, 39), 1, 0), 0, 99, 3);
        dueWindow("ends below it by a dot", at(pictures(100, 60, 41), 1, 0), 1, 0, 3);
        dueWindow("begins at the bottom", at(pictures(100, 100, 50), 1, 0), 1, 0, 2);
        dueWindow("begins above it by a dot", at(pictures(100, 100, 50), 1, 1), 1, 1, 3);
        dueWindow("the last line is the anchor", at(pictures(100, 100), 1, 30), 1, 0, 2);
        dueWindow("it is lower than the window", at(pictures(100, 30), 1, 0), 0, 30, 2);
        WindowLines x = at(pictures(100, 300), 1, 150);
        x.change(1, 144);
        dueWindow("the end at the top of the window", x, 1, 50, 2);
        x.undo();
        x.change(1, 143);
        dueWindow("the end above the top of the window by a dot", x, 1, 49, 2);
        x.undo();
        x.change(1, 0);
        dueWindow("the end far above the top of the window", x, 0, 6, 2);
    }

    /** "As long as the shift is below 0 and there is a line before the anchor"; "... it becomes 0." */
    private static void settlingUpwards() {
        dueWindow("up to a shift of 0", at(pictures(60, 40), 1, 0), 0, 0, 2);
        dueWindow("not beyond a shift of 0", at(pictures(100, 60, 40), 2, 0), 1, 0, 3);
        dueWindow("no line before it", at(pictures(30, 40), 1, 0), 0, 0, 2);
        dueWindow("a single line", at(pictures(99), 0, 9999), 0, 0, 1);
        WindowLines x = at(picturesIn(20, 100, 10, 10, 30), 3, 0);
        dueWindow("the lines between are not measured", x, 3, 0, 2);
        x.setHeight(100);
        dueWindow("each is measured as it is passed", x, 0, 50, 4);
        x.undo();
        x.setHeight(50);
        dueWindow("just to the top of line 1", x, 1, 0, 4);
        x.undo();
        x.setHeight(40);
        dueWindow("just to the top of line 2", x, 2, 0, 3);
        x.undo();
        x.setHeight(30);
        dueWindow("just the last line", x, 3, 0, 2);
    }

    // ---- put, cut

    private static void putAndCut() {
        WindowLines x = new WindowLines();
        due("put(0, 0, 0), the least of all", x.put(0, TEXT, 0), 16);
        dueWindow("the first line is the anchor, with the shift 0", x, 0, 0, 1);
        due("put(1, 2, 400), the greatest of all", x.put(1, PICTURE, 400), 422);
        due("put(0, 2, 0), guessed by the other picture", x.put(0, PICTURE, 0), 406 + 422);
        dueWindow("it is above the anchor and not measured", x, 1, 0, 2);
        due("put(3, 0, 400), guessed by the other text", x.put(3, TEXT, 400), 406 + 422 + 16);

        WindowLines y = at(pictures(200, 200, 200), 1, 30);
        due("put at the anchor's number", y.put(1, PICTURE, 0), 800);
        dueWindow("it is before the anchor", y, 2, 30, 2);
        y.undo();
        due("put behind the anchor", y.put(2, PICTURE, 0), 800);
        dueWindow("the anchor keeps its number", y, 1, 30, 2);
        y.undo();
        due("put as the last one", y.put(3, PICTURE, 0), 800);
        dueWindow("the anchor keeps its number", y, 1, 30, 2);
        due("numbers from this place on are greater by 1", y.line(3, 1), 0);
        due("those before are not", y.line(2, 1), 194);

        due("cut before the anchor", y.cut(0), 3);
        dueWindow("the anchor is the same line", y, 0, 30, 1);
        due("cut behind the anchor", y.cut(1), 2);
        dueWindow("the anchor is the same line", y, 0, 30, 1);
        due("cut the anchor, the first one", y.cut(0), 1);
        dueWindow("the line behind it", y, 0, 0, 1);
        due("it is the lowest one", y.line(0, 1), 0);
        due("cut the only one", y.cut(0), 0);
        dueWindow("no anchor", y, NONE, NONE, 0);
        due("put after that", y.put(0, PICTURE, 400), 406);
        dueWindow("the anchor with the shift 0", y, 0, 0, 1);

        WindowLines z = at(pictures(200, 200, 200), 2, 60);
        due("cut the anchor, the last one", z.cut(2), 2);
        dueWindow("the line before it, with the shift 0", z, 1, 0, 2);
        WindowLines w = at(pictures(200, 200, 200), 1, 60);
        due("cut the anchor in the middle", w.cut(1), 2);
        dueWindow("the line behind it, with the shift 0", w, 1, 0, 2);
    }

    private static void dueLine(WindowLines x, int line, int kind, int length, int measured) {
        due("kind of line " + line, x.line(line, 0), kind);
        due("length of line " + line, x.line(line, 1), length);
        due("line " + line + " measured", x.line(line, 3), measured);
    }

    /** "The lines from this place on get numbers that are greater by 1"; "... less by 1." */
    private static void numbersOfLines() {
        WindowLines x = new WindowLines();
        x.put(0, PICTURE, 93);
        x.put(1, TEXT, 1);
        x.put(2, HEADING, 2);
        x.put(1, HEADING, 3);
        x.put(0, TEXT, 4);
        dueLine(x, 0, TEXT, 4, 0);
        dueLine(x, 1, PICTURE, 93, 1);
        dueLine(x, 2, HEADING, 3, 1);
        dueLine(x, 3, TEXT, 1, 1);
        dueLine(x, 4, HEADING, 2, 0);
        x.cut(2);
        dueLine(x, 1, PICTURE, 93, 1);
        dueLine(x, 2, TEXT, 1, 1);
        dueLine(x, 3, HEADING, 2, 0);
        x.cut(0);
        dueLine(x, 0, PICTURE, 93, 1);
        dueLine(x, 1, TEXT, 1, 1);
        dueLine(x, 2, HEADING, 2, 0);
        x.cut(2);
        dueLine(x, 0, PICTURE, 93, 1);
        dueLine(x, 1, TEXT, 1, 1);
        due("line 2 is gone", x.line(2, 0), INVALID);
    }

    // ---- change

    private static void change() {
        WindowLines x = pictures(200, 200, 200);
        due("the least line, the greatest length", x.change(0, 400), 194);
        due("it is the anchor and measured at once", x.line(0, 2), 406);
        due("the least length", x.change(0, 0), 400);
        due("the greatest line", x.change(2, 400), 194);
        due("it is not measured", x.line(2, 3), 0);
        due("and back", x.change(2, 0), 400);
        due("the same length", x.change(2, 0), 0);
        x.goTo(2);
        x.goTo(0);
        due("it is measured", x.line(1, 3), 1);
        x.setHeight(20);
        x.change(0, 14);
        due("line 1 begins at the bottom", x.change(1, 14), 194);
        due("so it is not measured then", x.line(1, 3), 0);
        x.change(0, 13);
        due("it begins above the bottom by a dot", x.line(1, 3), 1);
    }

    // ---- setHeight, setWidth

    private static void setHeightAndSetWidth() {
        WindowLines x = new WindowLines();
        due("the height at first", x.setHeight(20), 100);
        due("the least height", x.count(HEIGHT), 20);
        due("the greatest height", x.setHeight(600), 20);
        due("the greatest height", x.count(HEIGHT), 600);
        due("and back", x.setHeight(21), 600);
        due("and up", x.setHeight(599), 21);
        due("a height too great", x.setHeight(601), INVALID);
        due("a height too small", x.setHeight(19), INVALID);
        due("the height stays", x.count(HEIGHT), 599);

        WindowLines y = new WindowLines();
        due("the width at first", y.setWidth(5), 40);
        due("the least width", y.count(WIDTH), 5);
        due("the greatest width", y.setWidth(80), 5);
        due("the greatest width", y.count(WIDTH), 80);
        due("and back", y.setWidth(6), 80);
        due("and up", y.setWidth(79), 6);
        due("a width too great", y.setWidth(81), INVALID);
        due("a width too small", y.setWidth(4), INVALID);
        due("the width stays", y.count(WIDTH), 79);

        WindowLines z = at(pictures(100, 100, 100, 100, 100), 4, 0);
        z.scroll(-400);
        due("all are measured", z.count(MEASURED), 5);
        z.setWidth(40);
        dueWindow("the same width: only the anchor is", z, 0, 0, 1);
        z.setHeight(101);
        dueWindow("line 1 begins above the bottom by a dot", z, 0, 0, 2);
        z.setHeight(500);
        dueWindow("the last line ends at the bottom", z, 0, 0, 5);
        z.setHeight(501);
        dueWindow("there is space below it", z, 0, 0, 5);
    }

    // ---- scroll

    /** "-9999 to 9999"; "as long as the shift is below 0 and there is a line before the anchor." */
    private static void scroll() {
        WindowLines x = at(pictures(100, 100, 100), 1, 0);
        due("up by a dot", x.scroll(-1), 0);
        due("shift", x.count(SHIFT), 99);
        due("up to the top", x.scroll(-99), 0);
        due("shift", x.count(SHIFT), 0);
        due("up by a dot at the top", x.scroll(-1), 0);
        due("shift", x.count(SHIFT), 0);
        due("the greatest scroll", x.scroll(9999), 2);
        due("shift", x.count(SHIFT), 0);
        due("down by a dot at the end", x.scroll(1), 2);
        due("shift", x.count(SHIFT), 0);
        due("up by a line", x.scroll(-100), 1);
        due("shift", x.count(SHIFT), 0);
        x.goTo(2);
        due("up by a line and a dot", x.scroll(-101), 0);
        due("shift", x.count(SHIFT), 99);
        x.goTo(2);
        due("the least scroll", x.scroll(-9999), 0);
        due("shift", x.count(SHIFT), 0);
        due("no scroll at all", x.scroll(0), 0);
        due("a scroll too far", x.scroll(10000), INVALID);
        due("a scroll too far up", x.scroll(-10000), INVALID);

        WindowLines low = at(picturesIn(20, 100, 6, 50, 50), 3, 0);
        due("guess", low.count(10), 75);
        due("past line 2 by its true height", low.scroll(-51), 1);
        dueWindow("line 1 has its true height too", low, 1, 5, 4);

        WindowLines far = new WindowLines();
        far.setWidth(5);
        for (int i = 0; i < 8; i++) {
            far.put(i, HEADING, 400);
        }
        due("9999 dots down, 1450 a line", far.scroll(9999), 6);
        due("shift", far.count(SHIFT), 1299);
        due("one dot more", far.scroll(1), 6);
        due("shift", far.count(SHIFT), 1300);
        due("9999 dots up", far.scroll(-9999), 0);
        due("shift", far.count(SHIFT), 1);
    }

    // ---- jump, goTo

    private static void dueJump(WindowLines x, int share, int anchor, int shift) {
        due("jump(" + share + ")", x.jump(share), anchor);
        due("shift after jump(" + share + ")", x.count(SHIFT), shift);
    }

    private static void jumpAndGoTo() {
        WindowLines x = pictures(100, 100, 100, 100, 100);
        dueJump(x, 0, 0, 0);
        dueJump(x, 2, 0, 0);
        dueJump(x, 3, 0, 1);
        dueJump(x, 249, 0, 99);
        dueJump(x, 250, 1, 0);
        dueJump(x, 252, 1, 0);
        dueJump(x, 253, 1, 1);
        dueJump(x, 997, 3, 98);
        dueJump(x, 999, 3, 99);
        dueJump(x, 1000, 4, 0);
        due("jump(1001)", x.jump(1001), INVALID);
        due("jump(-1)", x.jump(-1), INVALID);
        dueJump(pictures(100), 1000, 0, 0);
        dueJump(pictures(99), 1000, 0, 0);
        dueJump(pictures(99), 500, 0, 0);
        dueJump(pictures(6), 1000, 0, 0);
        dueJump(pictures(101), 999, 0, 0);
        dueJump(pictures(101), 1000, 0, 1);
        // By the guesses the place (150) is in line 1, which is lower when it is measured.
        dueJump(pictures(100, 10, 10, 300), 500, 3, 30);
        due("goTo(0)", x.goTo(0), 0);
        due("goTo the last line, as high as the window", x.goTo(4), 4);
        due("shift", x.count(SHIFT), 0);
        due("goTo(5)", x.goTo(5), INVALID);
        due("goTo(-1)", x.goTo(-1), INVALID);
        x.change(4, 93);
        due("goTo the last line, lower than the window by a dot", x.goTo(4), 3);
        due("shift", x.count(SHIFT), 99);
    }

    // ---- Terms: Undo

    private static void undo() {
        sixStates();
        nothingChanges();
        whatAStateHolds();
    }

    /** "At most 5 states is kept"; "when a sixth one is recorded, the oldest one is dropped." */
    private static void sixStates() {
        WindowLines x = new WindowLines();
        due("an empty history", x.undo(), ILLEGAL);
        for (int i = 0; i < 5; i++) {
            x.setHeight(20 + i);
            due("states", x.count(STATES), i + 1);
        }
        for (int left = 4; left >= 0; left--) {
            due("undo()", x.undo(), left);
            due("height", x.count(HEIGHT), left == 0 ? 100 : 19 + left);
        }
        due("an empty history", x.undo(), ILLEGAL);
        for (int i = 0; i < 6; i++) {
            x.setHeight(20 + i);
        }
        due("a sixth state", x.count(STATES), 5);
        for (int left = 4; left >= 0; left--) {
            due("undo()", x.undo(), left);
            due("height", x.count(HEIGHT), 20 + left);
        }
        due("the first one was dropped", x.undo(), ILLEGAL);
        due("height", x.count(HEIGHT), 20);
        for (int i = 0; i < 23; i++) {
            x.setHeight(30 + i);
        }
        due("states of many", x.count(STATES), 5);
        due("undo()", x.undo(), 4);
        due("undo()", x.undo(), 3);
        x.setHeight(200);
        due("recorded in the place of what was undone", x.count(STATES), 4);
        due("undo()", x.undo(), 3);
        due("height", x.count(HEIGHT), 50);
        due("undo()", x.undo(), 2);
        due("height", x.count(HEIGHT), 49);
    }

    private static void recorded(String call, Action action) {
        WindowLines x = pictures(100, 100);
        action.on(x);
        due("states after " + call, x.count(STATES), 3);
        due("undo of " + call, x.undo(), 2);
        due("lines after undo of " + call, x.count(LINES), 2);
        dueWindow("after undo of " + call, x, 0, 0, 1);
    }

    private static void notRecorded(String call, Action action) {
        WindowLines x = pictures(100, 100);
        action.on(x);
        due("states after " + call, x.count(STATES), 2);
    }

    /** "Every successful call of ... an action records the state before it (also if nothing changes)." */
    private static void nothingChanges() {
        recorded("put", x -> x.put(2, 0, 0));
        recorded("cut", x -> x.cut(1));
        recorded("change to the same length", x -> x.change(0, 94));
        recorded("setHeight to the same height", x -> x.setHeight(100));
        recorded("setWidth to the same width", x -> x.setWidth(40));
        recorded("scroll(0)", x -> x.scroll(0));
        recorded("jump to the same place", x -> x.jump(0));
        recorded("goTo the anchor", x -> x.goTo(0));
        recorded("run() of an empty text", x -> x.run());
        notRecorded("append", x -> x.append('a'));
        notRecorded("clearText", x -> x.clearText());
        notRecorded("a run() that fails", x -> x.append('a') + x.run());
        notRecorded("trueSum", x -> x.trueSum(0, 1));
        notRecorded("scrollsTo", x -> x.scrollsTo(1, 1));
        notRecorded("measuredBy", x -> x.measuredBy(1000));
        notRecorded("put that is refused", x -> x.put(3, 0, 0));
        notRecorded("scroll that is refused", x -> x.scroll(10000));
        WindowLines none = new WindowLines();
        none.run();
        due("an empty program without lines", none.count(STATES), 1);
    }

    /** "A state is everything but the text and the history." */
    private static void whatAStateHolds() {
        WindowLines x = at(pictures(100, 100, 100, 100), 1, 10);
        type(x, "ab");
        x.setHeight(50);
        x.setWidth(80);
        x.change(3, 1);
        x.scroll(9999);
        type(x, "c");
        due("undo the scroll", x.undo(), 4);
        dueWindow("after the scroll is undone", x, 1, 10, 1);
        due("the text stays", x.count(LENGTH), 3);
        due("undo the change", x.undo(), 3);
        due("its length", x.line(3, 1), 94);
        due("undo the width", x.undo(), 2);
        due("width", x.count(WIDTH), 40);
        due("what was measured is again", x.count(MEASURED), 3);
        due("undo the height", x.undo(), 1);
        due("height", x.count(HEIGHT), 100);
        due("undo the scroll before", x.undo(), 0);
        dueWindow("after goTo", x, 1, 0, 2);
        x.clearText();
        type(x, "cut 0;cut 0;cut 0;cut 0;");
        due("run()", x.run(), 4);
        due("no lines", x.count(LINES), 0);
        due("one action", x.undo(), 0);
        due("all lines are back", x.count(LINES), 4);
        dueWindow("and the window", x, 1, 0, 2);
        due("the text stays empty", x.count(LENGTH), 0);
    }

    // ---- append, clearText

    /** "A text of at most 100 characters"; "character code, 1 to 255." */
    private static void text() {
        WindowLines x = new WindowLines();
        due("clearText() of an empty text", x.clearText(), 0);
        due("the least character", x.append(1), 1);
        due("the greatest character", x.append(255), 2);
        due("a character too small", x.append(0), INVALID);
        due("a character too great", x.append(256), INVALID);
        for (int i = 3; i <= 99; i++) {
            x.append(' ');
        }
        due("99 characters", x.count(LENGTH), 99);
        due("the 100th", x.append(';'), 100);
        due("the 101st", x.append(';'), FULL);
        due("length", x.count(LENGTH), 100);
        due("clearText() of 100 characters", x.clearText(), 100);
        due("length", x.count(LENGTH), 0);
        due("room again", x.append('a'), 1);
        due("clearText() of one character", x.clearText(), 1);
    }

    // ---- Terms: Programs

    private static void dueProgram(String text, int want) {
        WindowLines x = pictures(100, 100, 100);
        type(x, text);
        due("program \"" + text + "\"", x.run(), want);
        due("text after \"" + text + "\"", x.count(LENGTH), want < 0 ? text.length() : 0);
        due("states after \"" + text + "\"", x.count(STATES), want < 0 ? 3 : 4);
    }

    private static void programs() {
        lengthsOfPrograms();
        tokensOfPrograms();
        numbersOfPrograms();
        spacesOfPrograms();
        missingParts();
        failingCommands();
    }

    /** "Commands (possibly none)"; "the length of the text if it ends where something is missing." */
    private static void lengthsOfPrograms() {
        dueProgram("", 0);
        dueProgram(" ", 0);
        dueProgram(" ".repeat(100), 0);
        dueProgram("to 0;".repeat(20), 20);
        dueProgram("up0;".repeat(25), 25);
        dueProgram(" ".repeat(96) + "to2;", 1);
        dueProgram("to 0;".repeat(19) + "to 0 ", -1100);
        dueProgram("to 0;".repeat(19) + " to 0", -1100);
        dueProgram("to 0;".repeat(19) + "down ", -1100);
        dueProgram("to 0;".repeat(19) + "    ;", -1099);
        dueProgram("to 0;".repeat(19) + "to 3;", -1095);
        dueProgram(" ".repeat(99) + "t", -1099);
        dueProgram("t", -1000);
    }

    /** "Maximal runs of letters a to z, maximal runs of digits, and any other character." */
    private static void tokensOfPrograms() {
        dueProgram("TO 0;", -1000);
        dueProgram("tO 0;", -1000);
        dueProgram("t o 0;", -1000);
        dueProgram("too 0;", -1000);
        dueProgram("toto 0;", -1000);
        dueProgram("putz 0 0 0;", -1000);
        dueProgram("zto 0;", -1000);
        dueProgram("`to 0;", -1000);
        dueProgram("{to 0;", -1000);
        for (int sign : new int[] {1, 9, 10, 31, 33, '/', ':', '@', 'A', 'Z', '[', '`', '{', 127, 128, 160, 178, 233, 255}) {
            dueProgram("to" + (char) sign + "0;", -1002);
            dueProgram("to 0" + (char) sign + ";", -1004);
            dueProgram("to 0;" + (char) sign, -1005);
        }
        dueProgram("to 0z;", -1004);
        dueProgram("to 0a;", -1004);
        dueProgram("to a;", -1003);
        dueProgram("to z;", -1003);
        dueProgram("to 0;;", -1005);
        dueProgram("to 0;0;", -1005);
        dueProgram("to -0;", -1003);
        dueProgram("to +0;", -1003);
    }

    /** "A run of 1 to 4 digits, the first of several not 0." */
    private static void numbersOfPrograms() {
        dueProgram("down 0;", 1);
        dueProgram("down 9;", 1);
        dueProgram("down 10;", 1);
        dueProgram("down 100;", 1);
        dueProgram("down 1000;", 1);
        dueProgram("down 9999;", 1);
        dueProgram("up 9999;", 1);
        dueProgram("down 10000;", -1005);
        dueProgram("down 00000;", -1005);
        dueProgram("down 12345678901234567890;", -1005);
        dueProgram("down 00;", -1005);
        dueProgram("down 01;", -1005);
        dueProgram("down 0001;", -1005);
        dueProgram("put 00 0 0;", -1004);
        dueProgram("put 0 00 0;", -1006);
        dueProgram("put 0 0 00;", -1008);
        dueProgram("put 0 0 0401;", -1008);
        dueProgram("put 0 0 10000;", -1008);
        WindowLines x = pictures(406, 406);
        type(x, "down 123;");
        due("run()", x.run(), 1);
        due("the digits from above", x.count(SHIFT), 123);
    }

    /** "They are needed only between two runs of letters and between two runs of digits." */
    private static void spacesOfPrograms() {
        dueProgram("put3 2 400;to3;cut3;down5;up5;share5;", 6);
        dueProgram(" put 3 2 400 ; to 3 ; cut 3 ; ", 3);
        dueProgram("   put   3   2   400   ;   ", 1);
        dueProgram("put 32 400;", -1010);
        dueProgram("put 3 2400;", -1010);
        dueProgram("downto 0;", -1000);
        dueProgram("down to 0;", -1005);
        dueProgram("down5up5;", -1005);
        dueProgram("down5 5;", -1006);
    }

    private static void missingParts() {
        dueProgram("put", -1003);
        dueProgram("put 0", -1005);
        dueProgram("put 0 0", -1007);
        dueProgram("put 0 0 0", -1009);
        dueProgram("put 0 0 0 ", -1010);
        dueProgram("put;", -1003);
        dueProgram("put 0;", -1005);
        dueProgram("put 0 0;", -1007);
        dueProgram("put 0 0 0 0;", -1010);
        for (String word : new String[] {"cut", "down", "up", "share", "to"}) {
            dueProgram(word, -1000 - word.length());
            dueProgram(word + " ", -1001 - word.length());
            dueProgram(word + ";", -1000 - word.length());
            dueProgram(word + " 0", -1002 - word.length());
            dueProgram(word + " 0 0;", -1003 - word.length());
            dueProgram(word + " 0 ;", 1);
        }
    }

    /** "At the first command whose call returns an error code (the place is then that of its word)." */
    private static void failingCommands() {
        dueProgram("put 3 2 400;", 1);
        dueProgram("put 4 2 400;", -1000);
        dueProgram("put 3 3 400;", -1000);
        dueProgram("put 3 2 401;", -1000);
        dueProgram("cut 2;", 1);
        dueProgram("cut 3;", -1000);
        dueProgram("share 0;share 1000;", 2);
        dueProgram("share 1001;", -1000);
        dueProgram("to 2;", 1);
        dueProgram("to 3;", -1000);
        dueProgram("  to  3  ;", -1002);
        dueProgram("to 3;?", -1000);
        dueProgram("to 3 ?", -1005);
        dueProgram("to 3", -1004);
        dueProgram("to 0;to 3;to 4;", -1005);
        dueProgram("put 0 0 0;to 3;", 2);
        dueProgram("cut 0;to 2;", -1006);
        dueProgram("cut 0;cut 0;cut 0;", 3);
        dueProgram("cut 0;cut 0;cut 0;cut 0;", -1018);
        dueProgram("cut 0;cut 0;cut 0;down 0;", -1018);
        dueProgram("cut 0;cut 0;cut 0;up 0;", -1018);
        dueProgram("cut 0;cut 0;cut 0;share 0;", -1018);
        dueProgram("cut 0;cut 0;cut 0;to 0;", -1018);
        dueProgram("cut 0;cut 0;cut 0;put 0 0 0;", 4);
        WindowLines x = pictures(100, 100, 100);
        type(x, "down 30;");
        for (int i = 0; i < 3; i++) {
            due("run()", x.run(), i == 0 ? 1 : 0);
        }
        dueWindow("the text became empty", x, 0, 30, 2);
        type(x, "up 20;");
        due("run()", x.run(), 1);
        dueWindow("up", x, 0, 10, 2);
        type(x, "to 3;");
        due("run()", x.run(), -1000);
        type(x, "a");
        due("the text is kept", x.run(), -1000);
        due("length", x.clearText(), 6);
        type(x, "to 2;");
        due("run()", x.run(), 1);
        WindowLines full = new WindowLines();
        for (int i = 0; i < 99; i++) {
            full.put(0, TEXT, 0);
        }
        type(full, "put 0 0 0;");
        due("the 100th line", full.run(), 1);
        type(full, "put 0 0 0;");
        due("a line too many", full.run(), -1000);
    }

    // ---- looking

    private static void looking() {
        counting();
        properties();
        seenAndAt();
        shares();
    }

    private static void counting() {
        WindowLines x = new WindowLines();
        int[] first = {0, 0, NONE, NONE, 0, 0, 100, 40, 20, 20, 20, 0, 0, 0};
        for (int what = 0; what <= 13; what++) {
            due("new: count(" + what + ")", x.count(what), first[what]);
        }
        due("count(-1)", x.count(-1), INVALID);
        due("count(14)", x.count(14), INVALID);
        x.put(0, HEADING, 9);
        x.append('x');
        int[] one = {1, 1, 0, 0, 28, 0, 100, 40, 20, 28, 20, 1, 1, 1};
        for (int what = 0; what <= 13; what++) {
            due("one line: count(" + what + ")", x.count(what), one[what]);
        }
    }

    private static void properties() {
        WindowLines x = at(pictures(100, 100, 100), 1, 40);
        due("the least line and what", x.line(0, 0), PICTURE);
        due("above the window", x.line(0, 6), -140);
        due("the anchor", x.line(1, 6), -40);
        due("the greatest line and what", x.line(2, 6), 60);
        due("line(3, 0)", x.line(3, 0), INVALID);
        due("line(0, 7)", x.line(0, 7), INVALID);
        x.scroll(-9999);
        due("beyond the window", x.line(2, 6), 200);
        due("at the bottom", x.line(1, 6), 100);
        due("at the top", x.line(0, 6), 0);
    }

    /** "0 ..., to the height of the window less 1"; "NONE if y is not less than the total." */
    private static void seenAndAt() {
        WindowLines x = pictures(30, 40);
        due("seen(0)", x.seen(0), 0);
        due("seen(29)", x.seen(29), 0);
        due("seen(30)", x.seen(30), 1);
        due("seen(69)", x.seen(69), 1);
        due("below the last line", x.seen(70), NONE);
        due("seen(99)", x.seen(99), NONE);
        due("seen(100)", x.seen(100), INVALID);
        due("at(69)", x.at(69), 1);
        due("at(70)", x.at(70), NONE);
        x.setHeight(20);
        due("height 20: seen(19)", x.seen(19), 0);
        due("height 20: seen(20)", x.seen(20), INVALID);
        x.scroll(9999);
        due("at the end: seen(0)", x.seen(0), 1);
        due("at the end: seen(19)", x.seen(19), 1);
        x.scroll(-21);
        due("one dot of line 0: seen(0)", x.seen(0), 0);
        due("one dot of line 0: seen(1)", x.seen(1), 1);
        WindowLines high = picturesIn(600, 400, 200);
        due("height 600: seen(399)", high.seen(399), 0);
        due("height 600: seen(400)", high.seen(400), 1);
        due("height 600: seen(599)", high.seen(599), 1);
        due("height 600: seen(600)", high.seen(600), INVALID);
        WindowLines guessed = pictures(200, 50, 60);
        due("the guess is 200: at(0)", guessed.at(0), 0);
        due("at(199)", guessed.at(199), 0);
        due("at(200)", guessed.at(200), 1);
        due("at(399)", guessed.at(399), 1);
        due("at(400)", guessed.at(400), 2);
        due("at(599)", guessed.at(599), 2);
        due("at(600)", guessed.at(600), NONE);
        due("at(-1)", guessed.at(-1), INVALID);
    }

    /** "0 if the total is not more than this height." */
    private static void shares() {
        due("without lines", new WindowLines().share(), 0);
        due("the total is less than the height by 1", pictures(99).share(), 0);
        due("the total is the height", pictures(100).share(), 0);
        WindowLines x = pictures(101);
        due("the total is more by 1: at the top", x.share(), 0);
        x.scroll(1);
        due("the total is more by 1: at the end", x.share(), 1000);
        WindowLines y = at(pictures(100, 101), 0, 9999);
        due("101 of 101", y.share(), 1000);
        y.scroll(-1);
        due("100 of 101 rounded down", y.share(), 990);
        y.scroll(-99);
        due("1 of 101 rounded down", y.share(), 9);
    }

    // ---- what could be

    private static void forecasts() {
        trueSums();
        scrolls();
        measured();
    }

    private static void trueSums() {
        WindowLines x = pictures(100, 30, 40);
        due("the first alone", x.trueSum(0, 0), 100);
        due("the last alone", x.trueSum(2, 2), 40);
        due("all", x.trueSum(0, 2), 170);
        due("the last two", x.trueSum(1, 2), 70);
        due("the last before the first", x.trueSum(1, 0), INVALID);
        due("a line too far", x.trueSum(0, 3), INVALID);
        due("a line too early", x.trueSum(-1, 0), INVALID);
    }

    /** "0 if it is in it"; "NONE if it is more than 100"; "-9999 to 9999, not 0." */
    private static void scrolls() {
        due("in it by a dot", pictures(99, 50).scrollsTo(1, 1), 0);
        due("begins at the bottom", pictures(100, 50).scrollsTo(1, 1), 1);
        due("100 dots down", pictures(199, 50).scrollsTo(1, 1), 100);
        due("101 dots down", pictures(200, 50).scrollsTo(1, 1), NONE);
        due("the greatest scroll", pictures(406, 50).scrollsTo(1, 9999), 1);
        due("in it before the greatest scroll", pictures(406, 50).scrollsTo(0, 9999), 0);
        WindowLines x = at(pictures(100, 200, 100), 2, 0);
        due("ends at the top", x.scrollsTo(1, -1), 1);
        due("the last one is in it", x.scrollsTo(2, -1), 0);
        due("the least scroll", x.scrollsTo(0, -9999), 1);
        due("201 dots up", x.scrollsTo(0, -1), NONE);
        due("101 times 2 dots up", x.scrollsTo(0, -2), NONE);
        due("67 times 3 dots up", x.scrollsTo(0, -3), 67);
        x.scroll(-1);
        due("100 times 2 dots up", x.scrollsTo(0, -2), 100);
        due("the wrong direction", x.scrollsTo(0, 1), NONE);
        due("no dots", x.scrollsTo(0, 0), INVALID);
        due("too many dots", x.scrollsTo(0, 10000), INVALID);
        due("too few dots", x.scrollsTo(0, -10000), INVALID);
        due("passed over", pictures(200, 50, 300).scrollsTo(1, 350), NONE);
    }

    /** "0 to 1000"; "0 without lines." */
    private static void measured() {
        WindowLines x = pictures(100, 100, 100, 100, 100);
        due("measuredBy(0)", x.measuredBy(0), 0);
        due("to the top of line 1", x.measuredBy(250), 1);
        due("below it by less than a dot", x.measuredBy(252), 1);
        due("below it by a dot", x.measuredBy(253), 2);
        due("measuredBy(1000)", x.measuredBy(1000), 1);
        due("measuredBy(1001)", x.measuredBy(1001), INVALID);
        due("measuredBy(-1)", x.measuredBy(-1), INVALID);
        due("lines that are passed count", pictures(100, 10, 10, 300).measuredBy(500), 3);
        due("the climb counts", pictures(100, 300, 10, 10, 10).measuredBy(1000), 4);
        due("without lines", new WindowLines().measuredBy(0), 0);
        due("without lines", new WindowLines().measuredBy(1000), 0);
        due("without lines, out of range", new WindowLines().measuredBy(-1), INVALID);
    }
}
