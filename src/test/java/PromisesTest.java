/** One method for each promise of the document, with answers worked out by hand. */
public final class PromisesTest {
    private static final int INVALID = -100001;
    private static final int ILLEGAL = -100002;
    private static final int FULL = -100003;
    private static final int NONE = -100009;
    private static final int TEXT = 0;
    private static final int HEADING = 1;
    private static final int PICTURE = 2;
    private static final int LINES = 0;
    private static final int MEASURED = 1;
    private static final int ANCHOR = 2;
    private static final int SHIFT = 3;
    private static final int TOTAL = 4;
    private static final int TOP = 5;
    private static final int SHOWN = 11;
    private static final int STATES = 12;
    private static final int LENGTH = 13;

    private static int wrong = 0;
    private static int checks = 0;

    public static void main(String[] args) {
        promise1New();
        promise2Put();
        promise2PutEdges();
        promise3Cut();
        promise4Change();
        promise5SetHeight();
        promise6SetWidth();
        promise7Scroll();
        promise8Jump();
        promise9GoTo();
        promise10Undo();
        promise10WhatIsRecorded();
        promise11Append();
        promise12ClearText();
        promise13Run();
        promise13Failures();
        promise13CallsThatFail();
        promise14Count();
        promise15Line();
        promise16Seen();
        promise17At();
        promise18Share();
        promise19TrueSum();
        promise20ScrollsTo();
        promise21MeasuredBy();
        settling();
        guesses();
        System.out.println(checks + " checks, " + wrong + " wrong");
        if (wrong != 0) {
            System.exit(1);
        }
    }

    private static void due(String call, long got, long want) {
        checks++;
        if (got != want) {
            wrong++;
            System.out.println(call + " answered " + got + ", due is " + want);
        }
    }

    private static void dueWindow(String when, WindowLines x, int anchor, int shift, int measured) {
        due(when + ": anchor", x.count(ANCHOR), anchor);
        due(when + ": shift", x.count(SHIFT), shift);
        due(when + ": measured lines", x.count(MEASURED), measured);
    }

    /** An object with pictures of these heights, which are at least 6. */
    private static WindowLines pictures(int... heights) {
        WindowLines x = new WindowLines();
        for (int i = 0; i < heights.length; i++) {
            x.put(i, PICTURE, heights[i] - 6);
        }
        return x;
    }

    private static int type(WindowLines x, String text) {
        int answer = 0;
        for (int i = 0; i < text.length(); i++) {
            answer = x.append(text.charAt(i));
        }
        return answer;
    }

    private static void dueProgram(String text, int want) {
        WindowLines x = pictures(100, 100, 100);
        type(x, text);
        due("program \"" + text + "\"", x.run(), want);
        due("length of the text after \"" + text + "\"", x.count(LENGTH), want < 0 ? text.length() : 0);
        due("states after \"" + text + "\"", x.count(STATES), want < 0 ? 3 : 4);
    }

    private static void promise1New() {
        WindowLines x = new WindowLines();
        int[] first = {0, 0, NONE, NONE, 0, 0, 100, 40, 20, 20, 20, 0, 0, 0};
        for (int what = 0; what < first.length; what++) {
            due("new: count(" + what + ")", x.count(what), first[what]);
        }
        due("new: line(0, 0)", x.line(0, 0), INVALID);
        due("new: share()", x.share(), 0);
        due("new: undo()", x.undo(), ILLEGAL);
        due("INVALID_ARGUMENT", WindowLines.INVALID_ARGUMENT, INVALID);
        due("ILLEGAL_STATE", WindowLines.ILLEGAL_STATE, ILLEGAL);
        due("CAPACITY_EXCEEDED", WindowLines.CAPACITY_EXCEEDED, FULL);
        due("NONE", WindowLines.NONE, NONE);
    }

    private static void promise2Put() {
        WindowLines x = new WindowLines();
        due("put the first line", x.put(0, TEXT, 81), 40);
        dueWindow("first line", x, 0, 0, 1);
        due("put below the bottom", x.put(1, PICTURE, 94), 140);
        dueWindow("second line begins above the bottom", x, 0, 0, 2);
        due("put beyond the window", x.put(2, HEADING, 400), 160);
        dueWindow("third line is guessed", x, 0, 0, 2);
        due("scroll(10)", x.scroll(10), 0);
        due("put ahead of the anchor's place", x.put(0, HEADING, 0), 180);
        dueWindow("put before: same line, same shift", x, 1, 10, 2);
        due("put behind the anchor", x.put(2, TEXT, 0), 196);
        dueWindow("put behind: same line, same shift", x, 1, 10, 3);
        due("kind of the line put in", x.line(2, 0), TEXT);
        due("kind of the line moved down", x.line(3, 0), PICTURE);
        due("states", x.count(STATES), 5);
        WindowLines y = pictures(200);
        y.scroll(50);
        due("put before the only line", y.put(0, PICTURE, 0), 400);
        dueWindow("the only line stays the anchor", y, 1, 50, 1);
    }

    private static void promise2PutEdges() {
        WindowLines x = new WindowLines();
        due("put(-1, 0, 0)", x.put(-1, 0, 0), INVALID);
        due("put(1, 0, 0)", x.put(1, 0, 0), INVALID);
        due("put(0, -1, 0)", x.put(0, -1, 0), INVALID);
        due("put(0, 3, 0)", x.put(0, 3, 0), INVALID);
        due("put(0, 0, -1)", x.put(0, 0, -1), INVALID);
        due("put(0, 0, 401)", x.put(0, 0, 401), INVALID);
        due("put with the greatest numbers", x.put(Integer.MAX_VALUE, Integer.MAX_VALUE, Integer.MAX_VALUE), INVALID);
        due("put with the least numbers", x.put(Integer.MIN_VALUE, Integer.MIN_VALUE, Integer.MIN_VALUE), INVALID);
        due("no states of failed calls", x.count(STATES), 0);
        for (int i = 0; i < 100; i++) {
            due("put line " + i, x.put(i, TEXT, 0), 16 * (i + 1));
        }
        due("put a line too many at the end", x.put(100, TEXT, 0), FULL);
        due("put a line too many at the start", x.put(0, TEXT, 0), FULL);
        due("invalid comes before full: place", x.put(101, TEXT, 0), INVALID);
        due("invalid comes before full: kind", x.put(0, 3, 0), INVALID);
        due("invalid comes before full: length", x.put(0, TEXT, 401), INVALID);
        due("100 lines", x.count(LINES), 100);
        due("total", x.count(TOTAL), 1600);
    }

    private static void promise3Cut() {
        WindowLines x = pictures(50, 60, 70, 80, 90);
        due("goTo(2)", x.goTo(2), 2);
        due("scroll(5)", x.scroll(5), 2);
        due("cut before the anchor", x.cut(0), 4);
        dueWindow("cut before", x, 1, 5, 3);
        due("cut behind the anchor", x.cut(2), 3);
        dueWindow("cut behind", x, 1, 5, 3);
        due("height of the line moved up", x.line(2, 2), 90);
        due("cut the anchor", x.cut(1), 2);
        dueWindow("the line behind is the anchor, and the window goes up", x, 0, 50, 2);
        due("cut(2)", x.cut(2), INVALID);
        due("cut(-1)", x.cut(-1), INVALID);
        due("cut(MAX)", x.cut(Integer.MAX_VALUE), INVALID);
        due("cut(1)", x.cut(1), 1);
        due("cut(0)", x.cut(0), 0);
        dueWindow("no lines", x, NONE, NONE, 0);
        due("cut without lines", x.cut(0), INVALID);
        due("put after all were cut", x.put(0, PICTURE, 200), 206);
        dueWindow("one line again", x, 0, 0, 1);

        WindowLines y = pictures(200, 200, 200);
        due("goTo(1)", y.goTo(1), 1);
        due("scroll(30)", y.scroll(30), 1);
        due("cut the anchor", y.cut(1), 2);
        dueWindow("the line behind with the shift 0", y, 1, 0, 2);
        due("scroll(30)", y.scroll(30), 1);
        due("cut the anchor that is last", y.cut(1), 1);
        dueWindow("the line before with the shift 0", y, 0, 0, 1);
    }

    private static void promise4Change() {
        WindowLines x = pictures(50, 60, 70, 80);
        due("change a line in the window", x.change(0, 94), 44);
        due("its height", x.line(0, 2), 100);
        dueWindow("line 1 stays measured", x, 0, 0, 2);
        due("change a line beyond the window", x.change(3, 400), 74);
        due("its height is guessed", x.line(3, 2), 80);
        due("goTo(3)", x.goTo(3), 3);
        due("change a line above the window", x.change(0, 0), 94);
        due("it is not measured", x.line(0, 3), 0);
        due("change to the same length", x.change(1, 54), 54);
        due("not measured either", x.line(1, 3), 0);
        due("scroll(100)", x.scroll(100), 3);
        due("the anchor gets shorter than the shift", x.change(3, 0), 400);
        dueWindow("the window goes up", x, 1, 36, 3);
        due("change(4, 0)", x.change(4, 0), INVALID);
        due("change(-1, 0)", x.change(-1, 0), INVALID);
        due("change(0, -1)", x.change(0, -1), INVALID);
        due("change(0, 401)", x.change(0, 401), INVALID);
        due("change(MAX, 0)", x.change(Integer.MAX_VALUE, 0), INVALID);
        due("length kept", x.line(0, 1), 0);

        WindowLines y = pictures(100, 100, 100, 100);
        y.scroll(90);
        due("change the anchor to below the shift", y.change(0, 24), 94);
        dueWindow("the next line is the anchor", y, 1, 60, 3);
    }

    private static void promise5SetHeight() {
        WindowLines x = pictures(100, 100, 100, 100);
        due("measured at first", x.count(MEASURED), 1);
        due("setHeight(101)", x.setHeight(101), 100);
        due("measured then", x.count(MEASURED), 2);
        due("setHeight(20)", x.setHeight(20), 101);
        due("setHeight(600)", x.setHeight(600), 20);
        due("measured then", x.count(MEASURED), 4);
        due("setHeight(19)", x.setHeight(19), INVALID);
        due("setHeight(601)", x.setHeight(601), INVALID);
        due("setHeight(-1)", x.setHeight(-1), INVALID);
        due("setHeight(MIN)", x.setHeight(Integer.MIN_VALUE), INVALID);
        due("height", x.count(6), 600);
        x.setHeight(100);
        x.scroll(9999);
        dueWindow("at the end", x, 3, 0, 4);
        due("setHeight(150)", x.setHeight(150), 100);
        dueWindow("it goes up at the end", x, 2, 50, 4);
        WindowLines empty = new WindowLines();
        due("setHeight without lines", empty.setHeight(50), 100);
        due("an action", empty.count(STATES), 1);
    }

    private static void promise6SetWidth() {
        WindowLines x = new WindowLines();
        x.put(0, TEXT, 400);
        x.put(1, HEADING, 400);
        x.put(2, PICTURE, 400);
        x.setHeight(600);
        due("total", x.count(TOTAL), 124 + 190 + 406);
        x.setHeight(50);
        x.goTo(1);
        due("setWidth(80)", x.setWidth(80), 40);
        dueWindow("only the window is measured", x, 1, 0, 1);
        due("heading", x.line(1, 2), 18 * 5 + 10);
        due("text is guessed", x.line(0, 2), 20);
        due("its true height", x.line(0, 5), 12 * 5 + 4);
        due("picture", x.line(2, 5), 406);
        due("setWidth(5)", x.setWidth(5), 80);
        due("heading", x.line(1, 2), 18 * 80 + 10);
        due("same width", x.setWidth(5), 5);
        due("setWidth(4)", x.setWidth(4), INVALID);
        due("setWidth(81)", x.setWidth(81), INVALID);
        due("setWidth(0)", x.setWidth(0), INVALID);
        due("setWidth(-5)", x.setWidth(-5), INVALID);
        due("setWidth(MAX)", x.setWidth(Integer.MAX_VALUE), INVALID);
        due("width", x.count(7), 5);
        x.goTo(2);
        x.setWidth(80);
        due("the same width again measures anew", x.setWidth(80), 80);
        dueWindow("only the picture", x, 2, 0, 1);
        WindowLines empty = new WindowLines();
        due("setWidth without lines", empty.setWidth(50), 40);
        due("an action", empty.count(STATES), 1);
    }

    private static void promise7Scroll() {
        WindowLines x = pictures(100, 50, 100, 100, 100);
        due("scroll(99)", x.scroll(99), 0);
        due("scroll(1)", x.scroll(1), 1);
        dueWindow("at the top of line 1", x, 1, 0, 3);
        due("scroll(-1)", x.scroll(-1), 0);
        due("shift", x.count(SHIFT), 99);
        due("scroll(0)", x.scroll(0), 0);
        due("scroll(-9999)", x.scroll(-9999), 0);
        due("shift", x.count(SHIFT), 0);
        due("scroll(9999)", x.scroll(9999), 4);
        dueWindow("all are measured", x, 4, 0, 5);
        due("scroll(-260)", x.scroll(-260), 0);
        due("shift", x.count(SHIFT), 90);
        due("scroll(10000)", x.scroll(10000), INVALID);
        due("scroll(-10000)", x.scroll(-10000), INVALID);
        due("scroll(MAX)", x.scroll(Integer.MAX_VALUE), INVALID);
        due("scroll(MIN)", x.scroll(Integer.MIN_VALUE), INVALID);
        WindowLines empty = new WindowLines();
        due("scroll without lines", empty.scroll(0), ILLEGAL);
        due("invalid comes before illegal", empty.scroll(10000), INVALID);
        due("no action", empty.count(STATES), 0);
    }

    private static void promise8Jump() {
        WindowLines x = pictures(100, 100, 100, 100, 103);
        due("total with a guess", x.count(TOTAL), 500);
        due("jump(500)", x.jump(500), 2);
        dueWindow("in the middle", x, 2, 0, 2);
        due("jump(999)", x.jump(999), 3);
        due("shift", x.count(SHIFT), 99);
        due("jump(1000), the last line being longer", x.jump(1000), 4);
        due("shift", x.count(SHIFT), 3);
        due("jump(1)", x.jump(1), 0);
        due("shift is rounded down", x.count(SHIFT), 0);
        due("jump(0)", x.jump(0), 0);
        due("jump(-1)", x.jump(-1), INVALID);
        due("jump(1001)", x.jump(1001), INVALID);
        due("jump(MAX)", x.jump(Integer.MAX_VALUE), INVALID);
        WindowLines low = pictures(30, 40);
        due("jump with less than the window", low.jump(1000), 0);
        due("shift", low.count(SHIFT), 0);
        WindowLines empty = new WindowLines();
        due("jump without lines", empty.jump(0), ILLEGAL);
        due("invalid comes before illegal", empty.jump(1001), INVALID);
        due("no action", empty.count(STATES), 0);
    }

    private static void promise9GoTo() {
        WindowLines x = pictures(100, 100, 100, 60);
        x.scroll(50);
        due("goTo(0)", x.goTo(0), 0);
        due("shift", x.count(SHIFT), 0);
        due("goTo(1)", x.goTo(1), 1);
        due("shift", x.count(SHIFT), 0);
        due("goTo the last line settles upwards", x.goTo(3), 2);
        due("shift", x.count(SHIFT), 60);
        due("goTo(4)", x.goTo(4), INVALID);
        due("goTo(-1)", x.goTo(-1), INVALID);
        due("goTo(MIN)", x.goTo(Integer.MIN_VALUE), INVALID);
        due("goTo without lines", new WindowLines().goTo(0), INVALID);
    }

    private static void promise10Undo() {
        WindowLines x = new WindowLines();
        due("undo() at first", x.undo(), ILLEGAL);
        x.put(0, PICTURE, 194);
        x.put(1, PICTURE, 300);
        x.scroll(150);
        due("measured", x.count(MEASURED), 2);
        due("undo the scroll", x.undo(), 2);
        dueWindow("the scroll is undone", x, 0, 0, 1);
        due("undo a put", x.undo(), 1);
        due("lines", x.count(LINES), 1);
        due("undo the first put", x.undo(), 0);
        due("lines", x.count(LINES), 0);
        due("nothing left", x.undo(), ILLEGAL);
        x.setHeight(200);
        x.setWidth(80);
        due("undo the width", x.undo(), 1);
        due("width", x.count(7), 40);
        due("height", x.count(6), 200);
        due("undo the height", x.undo(), 0);
        due("height", x.count(6), 100);
        for (int i = 0; i < 7; i++) {
            x.put(i, TEXT, 10 * i);
        }
        due("five states at the most", x.count(STATES), 5);
        due("states left", x.undo(), 4);
        due("states left", x.undo(), 3);
        due("states left", x.undo(), 2);
        x.put(0, TEXT, 0);
        due("states after one more action", x.count(STATES), 3);
        for (int left = 2; left >= 0; left--) {
            due("states left", x.undo(), left);
        }
        due("the oldest are gone", x.count(LINES), 2);
        due("nothing left", x.undo(), ILLEGAL);
    }

    private static void promise10WhatIsRecorded() {
        WindowLines x = pictures(100, 100);
        due("puts", x.count(STATES), 2);
        x.scroll(0);
        due("an action that changes nothing", x.count(STATES), 3);
        x.goTo(7);
        x.jump(-1);
        x.put(9, 0, 0);
        x.cut(-1);
        due("failed calls", x.count(STATES), 3);
        x.append('c');
        x.seen(0);
        x.scrollsTo(1, 50);
        x.measuredBy(1000);
        due("text and looks", x.count(STATES), 3);
        x.clearText();
        due("clearing the text", x.count(STATES), 3);
        x.append('q');
        due("undo", x.undo(), 2);
        due("the text is not part of a state", x.count(LENGTH), 1);
        x.cut(1);
        x.change(0, 60);
        due("five states", x.count(STATES), 4);
        x.undo();
        due("the changed length is undone", x.line(0, 1), 94);
        x.undo();
        due("the cut line is back", x.count(LINES), 2);
    }

    private static void promise11Append() {
        WindowLines x = new WindowLines();
        due("append(0)", x.append(0), INVALID);
        due("append(256)", x.append(256), INVALID);
        due("append(-1)", x.append(-1), INVALID);
        due("append(65536 + 65)", x.append(65536 + 65), INVALID);
        due("append(1)", x.append(1), 1);
        due("append(255)", x.append(255), 2);
        for (int length = 3; length <= 100; length++) {
            due("append", x.append(' '), length);
        }
        due("append to a full text", x.append(' '), FULL);
        due("invalid comes before full", x.append(256), INVALID);
        due("length", x.count(LENGTH), 100);
        due("no action", x.count(STATES), 0);
    }

    private static void promise12ClearText() {
        WindowLines x = new WindowLines();
        due("clearText() of an empty text", x.clearText(), 0);
        type(x, "abc");
        due("clearText()", x.clearText(), 3);
        due("length", x.count(LENGTH), 0);
        due("append then", x.append('x'), 1);
        due("run() of what is left", x.run(), -1000);
    }

    private static void promise13Run() {
        dueProgram("", 0);
        dueProgram("   ", 0);
        dueProgram("put 0 0 9;put 1 1 9 ; put 2 2 400;", 3);
        dueProgram("put0 0 9;", 1);
        dueProgram("  down  9999 ;up 9999;", 2);
        dueProgram("share 1000;to 2;cut 0;", 3);
        dueProgram("to0;to1;to2;", 3);
        WindowLines x = pictures(100, 100, 100, 100);
        type(x, "down 130;up 20; ");
        due("run()", x.run(), 2);
        dueWindow("down and up", x, 1, 10, 3);
        due("one action", x.count(STATES), 5);
        due("undo()", x.undo(), 4);
        dueWindow("all of it is undone", x, 0, 0, 1);
        type(x, "share 500;");
        due("run()", x.run(), 1);
        dueWindow("share", x, 1, 50, 3);
        type(x, "to 3;");
        due("run()", x.run(), 1);
        dueWindow("to", x, 3, 0, 4);
        type(x, "cut 3;put 0 2 44;");
        due("run()", x.run(), 2);
        dueWindow("cut and put", x, 3, 0, 3);
        due("lines", x.count(LINES), 4);
        type(x, "up0;up0;up0;up0;up0;up0;up0;up0;up0;up0;up0;up0;up0;up0;up0;up0;up0;up0;up0;up0;up0;up0;up0;up0;up0;");
        due("as many commands as a text holds", x.run(), 25);
        due("run() of no commands", x.run(), 0);
        due("is an action", x.count(STATES), 5);
    }

    private static void promise13Failures() {
        dueProgram("jump 1;", -1000);
        dueProgram("  putx 0 0 0;", -1002);
        dueProgram("Put 0 0 0;", -1000);
        dueProgram("pu", -1000);
        dueProgram("toz 0;", -1000);
        dueProgram("ato 0;", -1000);
        dueProgram("to`0;", -1002);
        dueProgram("to{0;", -1002);
        dueProgram("to/0;", -1002);
        dueProgram("to:0;", -1002);
        dueProgram(";", -1000);
        dueProgram("7;", -1000);
        dueProgram("to 0;;", -1005);
        dueProgram("to;", -1002);
        dueProgram("to to 0;", -1003);
        dueProgram("to -1;", -1003);
        dueProgram("to 0 0;", -1005);
        dueProgram("put 0 0;", -1007);
        dueProgram("put 0 0 0 0;", -1010);
        dueProgram("down 00;", -1005);
        dueProgram("down 01;", -1005);
        dueProgram("down 12345;", -1005);
        dueProgram("down 99999999999;", -1005);
        dueProgram("down 1 2;", -1007);
        dueProgram("down 1a;", -1006);
        dueProgram("to\t0;", -1002);
        dueProgram("to \u00e90;", -1003);
        dueProgram("to 0,", -1004);
        dueProgram("to 0", -1004);
        dueProgram("to 0  ", -1006);
        dueProgram("to", -1002);
        dueProgram("to ", -1003);
        dueProgram("to 0;put 0 0 ", -1013);
        dueProgram("to 0;down", -1009);
    }

    private static void promise13CallsThatFail() {
        dueProgram("to 0; to 3;", -1006);
        dueProgram("to 3;what", -1000);
        dueProgram("to 3 what", -1005);
        dueProgram("cut 0;cut 0;cut 0;cut 0;", -1018);
        dueProgram("cut 0;cut 0;cut 0;down 1;", -1018);
        dueProgram("cut 0;cut 0;cut 0;up 0;", -1018);
        dueProgram("cut 0;cut 0;cut 0;share 0;", -1018);
        dueProgram("share 1001;", -1000);
        dueProgram("put 4 0 0;", -1000);
        dueProgram("put 0 3 0;", -1000);
        dueProgram("put 0 0 401;", -1000);
        WindowLines x = pictures(100, 100, 100);
        x.scroll(30);
        type(x, "put 0 1 50;cut 2;down 50;to 9;");
        due("run()", x.run(), -1025);
        dueWindow("nothing of it stays", x, 0, 30, 2);
        due("lines", x.count(LINES), 3);
        due("states", x.count(STATES), 4);
        due("run() again", x.run(), -1025);
        WindowLines full = new WindowLines();
        for (int i = 0; i < 99; i++) {
            full.put(0, TEXT, 0);
        }
        type(full, "put 0 0 0;put 0 0 0;");
        due("run() with too many lines", full.run(), -1010);
        due("lines", full.count(LINES), 99);
    }

    private static void promise14Count() {
        WindowLines x = new WindowLines();
        x.put(0, TEXT, 50);
        x.put(1, HEADING, 50);
        x.put(2, PICTURE, 10);
        x.put(3, TEXT, 400);
        x.put(4, HEADING, 400);
        x.put(5, PICTURE, 400);
        x.scroll(30);
        type(x, "to");
        int[] want = {6, 4, 1, 2, 28 + 46 + 16 + 124 + 46 + 16, 30, 100, 40, 76, 46, 16, 3, 5, 2};
        for (int what = 0; what < want.length; what++) {
            due("count(" + what + ")", x.count(what), want[what]);
        }
        due("count(-1)", x.count(-1), INVALID);
        due("count(14)", x.count(14), INVALID);
        due("count(MAX)", x.count(Integer.MAX_VALUE), INVALID);
        WindowLines edge = pictures(50, 50, 50, 50);
        due("a line that begins at the bottom is not in the window", edge.count(SHOWN), 2);
        edge.scroll(1);
        due("one dot of it is", edge.count(SHOWN), 3);
        edge.scroll(49);
        due("a line that ends at the top is not", edge.count(SHOWN), 2);
        edge.scroll(-1);
        due("its last dot is", edge.count(SHOWN), 3);
    }

    private static void promise15Line() {
        WindowLines x = new WindowLines();
        x.put(0, TEXT, 41);
        x.put(1, HEADING, 121);
        x.put(2, PICTURE, 7);
        x.put(3, TEXT, 40);
        x.scroll(27);
        int[][] want = {
            {TEXT, 41, 28, 1, 0, 28, -27},
            {HEADING, 121, 82, 1, 28, 82, 1},
            {PICTURE, 7, 13, 1, 110, 13, 83},
            {TEXT, 40, 16, 1, 123, 16, 96},
        };
        for (int line = 0; line < want.length; line++) {
            for (int what = 0; what < want[line].length; what++) {
                due("line(" + line + ", " + what + ")", x.line(line, what), want[line][what]);
            }
        }
        x.setHeight(20);
        x.setWidth(20);
        int[] guessed = {PICTURE, 7, 20, 0, 20 + 136, 13, 20 + 136 - 20};
        x.goTo(1);
        due("a text that is not measured", x.line(0, 3), 1);
        x.setWidth(20);
        for (int what = 0; what < guessed.length - 1; what++) {
            due("guessed: line(2, " + what + ")", x.line(2, what), guessed[what]);
        }
        due("as seen from the window", x.line(0, 6), -20);
        due("beyond the window", x.line(2, 6), 136);
        due("line(4, 0)", x.line(4, 0), INVALID);
        due("line(-1, 0)", x.line(-1, 0), INVALID);
        due("line(0, -1)", x.line(0, -1), INVALID);
        due("line(0, 7)", x.line(0, 7), INVALID);
        due("line(MAX, MAX)", x.line(Integer.MAX_VALUE, Integer.MAX_VALUE), INVALID);
        due("empty line of text", new WindowLines().put(0, TEXT, 0), 16);
        due("empty heading", new WindowLines().put(0, HEADING, 0), 28);
        due("empty picture", new WindowLines().put(0, PICTURE, 0), 6);
    }

    private static void promise16Seen() {
        WindowLines x = pictures(50, 60, 70);
        x.scroll(20);
        due("seen(0)", x.seen(0), 0);
        due("seen(29)", x.seen(29), 0);
        due("seen(30)", x.seen(30), 1);
        due("seen(89)", x.seen(89), 1);
        due("seen(90)", x.seen(90), 2);
        due("seen(99)", x.seen(99), 2);
        due("seen(100)", x.seen(100), INVALID);
        due("seen(-1)", x.seen(-1), INVALID);
        due("seen(MAX)", x.seen(Integer.MAX_VALUE), INVALID);
        WindowLines low = pictures(30);
        due("seen(29)", low.seen(29), 0);
        due("seen(30)", low.seen(30), NONE);
        due("seen(99)", low.seen(99), NONE);
        due("seen(100)", low.seen(100), INVALID);
        due("without lines", new WindowLines().seen(0), NONE);
        due("without lines, out of range", new WindowLines().seen(100), INVALID);
    }

    private static void promise17At() {
        WindowLines x = pictures(50, 60, 70);
        x.scroll(9999);
        due("at(0)", x.at(0), 0);
        due("at(49)", x.at(49), 0);
        due("at(50)", x.at(50), 1);
        due("at(109)", x.at(109), 1);
        due("at(110)", x.at(110), 2);
        due("at(179)", x.at(179), 2);
        due("at(180)", x.at(180), NONE);
        due("at(MAX)", x.at(Integer.MAX_VALUE), NONE);
        due("at(-1)", x.at(-1), INVALID);
        due("at(MIN)", x.at(Integer.MIN_VALUE), INVALID);
        due("without lines", new WindowLines().at(0), NONE);
        due("without lines, out of range", new WindowLines().at(-1), INVALID);
    }

    private static void promise18Share() {
        WindowLines x = pictures(100, 100, 103);
        x.setHeight(600);
        x.setHeight(100);
        due("at the top", x.share(), 0);
        x.scroll(100);
        due("100 of 203", x.share(), 492);
        x.scroll(9999);
        due("at the end", x.share(), 1000);
        x.scroll(-1);
        due("202 of 203", x.share(), 995);
        due("as high as the window", pictures(40, 60).share(), 0);
        WindowLines higher = pictures(40, 61);
        higher.scroll(1);
        due("higher than the window by a dot", higher.share(), 1000);
        due("lower than the window", pictures(40).share(), 0);
        due("without lines", new WindowLines().share(), 0);
    }

    private static void promise19TrueSum() {
        WindowLines x = pictures(100, 200, 300, 400);
        due("measured", x.count(MEASURED), 1);
        due("trueSum(0, 3)", x.trueSum(0, 3), 1000);
        due("trueSum(1, 2)", x.trueSum(1, 2), 500);
        due("trueSum(3, 3)", x.trueSum(3, 3), 400);
        due("trueSum(0, 0)", x.trueSum(0, 0), 100);
        due("trueSum(2, 1)", x.trueSum(2, 1), INVALID);
        due("trueSum(-1, 1)", x.trueSum(-1, 1), INVALID);
        due("trueSum(0, 4)", x.trueSum(0, 4), INVALID);
        due("trueSum(4, 4)", x.trueSum(4, 4), INVALID);
        due("trueSum(MIN, MAX)", x.trueSum(Integer.MIN_VALUE, Integer.MAX_VALUE), INVALID);
        due("nothing is measured by it", x.count(MEASURED), 1);
        due("without lines", new WindowLines().trueSum(0, 0), INVALID);
    }

    private static void promise20ScrollsTo() {
        WindowLines x = pictures(100, 100, 100, 100, 100);
        due("scrollsTo(0, 50)", x.scrollsTo(0, 50), 0);
        due("scrollsTo(1, 50)", x.scrollsTo(1, 50), 1);
        due("scrollsTo(2, 50)", x.scrollsTo(2, 50), 3);
        due("scrollsTo(4, 1)", x.scrollsTo(4, 1), NONE);
        due("scrollsTo(1, 1)", x.scrollsTo(1, 1), 1);
        due("scrollsTo(2, 1)", x.scrollsTo(2, 1), NONE);
        due("scrollsTo(4, 9999)", x.scrollsTo(4, 9999), 1);
        due("a line that is passed over", x.scrollsTo(1, 9999), NONE);
        due("the other direction", x.scrollsTo(1, -1), NONE);
        due("nothing is measured by it", x.count(MEASURED), 1);
        due("anchor", x.count(ANCHOR), 0);
        due("scrollsTo(0, 0)", x.scrollsTo(0, 0), INVALID);
        due("scrollsTo(5, 1)", x.scrollsTo(5, 1), INVALID);
        due("scrollsTo(-1, 1)", x.scrollsTo(-1, 1), INVALID);
        due("scrollsTo(0, 10000)", x.scrollsTo(0, 10000), INVALID);
        due("scrollsTo(0, -10000)", x.scrollsTo(0, -10000), INVALID);
        due("scrollsTo(0, MIN)", x.scrollsTo(0, Integer.MIN_VALUE), INVALID);
        x.scroll(9999);
        due("up: scrollsTo(0, -150)", x.scrollsTo(0, -150), 3);
        due("up: scrollsTo(0, -9999)", x.scrollsTo(0, -9999), 1);
        x.scroll(-1);
        due("100 scrolls", x.scrollsTo(2, -1), 100);
        x.scroll(1);
        due("101 scrolls", x.scrollsTo(2, -1), NONE);
        due("without lines", new WindowLines().scrollsTo(0, 1), INVALID);
    }

    private static void promise21MeasuredBy() {
        WindowLines x = pictures(100, 100, 100, 100, 100);
        due("measuredBy(0)", x.measuredBy(0), 0);
        due("measuredBy(250)", x.measuredBy(250), 1);
        due("measuredBy(300)", x.measuredBy(300), 2);
        due("measuredBy(100)", x.measuredBy(100), 1);
        due("measuredBy(1000)", x.measuredBy(1000), 1);
        due("nothing is measured by it", x.count(MEASURED), 1);
        due("measuredBy(-1)", x.measuredBy(-1), INVALID);
        due("measuredBy(1001)", x.measuredBy(1001), INVALID);
        due("measuredBy(MIN)", x.measuredBy(Integer.MIN_VALUE), INVALID);
        due("without lines", new WindowLines().measuredBy(1000), 0);
        due("without lines, out of range", new WindowLines().measuredBy(1001), INVALID);
    }

    /** What is told under "Settling", where the promises do not show it. */
    private static void settling() {
        WindowLines x = new WindowLines();
        x.setHeight(20);
        for (int i = 0; i < 10; i++) {
            x.put(i, PICTURE, 0);
        }
        due("a line is measured if it begins above the bottom", x.count(MEASURED), 4);
        x.goTo(5);
        due("lines passed over stay as they are", x.line(4, 3), 0);
        x.change(9, 400);
        x.goTo(9);
        dueWindow("the last line is the anchor", x, 9, 0, 9);
        x.change(9, 0);
        dueWindow("its end is above the bottom then", x, 6, 4, 9);
        x.change(6, 400);
        x.goTo(6);
        x.scroll(300);
        x.cut(9);
        x.cut(8);
        x.cut(7);
        dueWindow("the last line goes on", x, 6, 300, 6);
        x.change(6, 0);
        dueWindow("the end above the top of the window, too; line 4 is passed upwards", x, 3, 4, 7);
        WindowLines y = pictures(30, 30);
        due("less than the window: scroll", y.scroll(10), 0);
        due("shift", y.count(SHIFT), 0);
        due("less than the window: goTo", y.goTo(1), 0);
        due("shift", y.count(SHIFT), 0);
    }

    private static void guesses() {
        WindowLines x = new WindowLines();
        x.setHeight(600);
        x.put(0, TEXT, 0);
        x.put(1, TEXT, 41);
        x.put(2, TEXT, 81);
        due("(16 + 28 + 40) / 3", x.count(8), 28);
        x.put(3, TEXT, 121);
        x.cut(0);
        due("(28 + 40 + 52) / 3", x.count(8), 40);
        x.put(0, TEXT, 400);
        due("(28 + 40 + 52 + 124) / 4", x.count(8), 61);
        due("heading", x.count(9), 20);
        x.put(0, HEADING, 0);
        due("heading", x.count(9), 28);
        x.put(0, PICTURE, 1);
        x.put(0, PICTURE, 0);
        due("(6 + 7) / 2 is rounded down", x.count(10), 6);
        x.setWidth(80);
        due("(16 + 28 + 28 + 64) / 4", x.count(8), 34);
    }
}
