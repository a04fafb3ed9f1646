/** Lines of unequal height seen through a window; ../shared/DOC.md says what each call answers. */
public final class WindowLines {
    public static final int INVALID_ARGUMENT = -100001;
    public static final int ILLEGAL_STATE = -100002;
    public static final int CAPACITY_EXCEEDED = -100003;
    public static final int NONE = -100009;

    private static final int MAX_LINES = 100;
    private static final int MAX_LENGTH = 400;
    private static final int KINDS = 3;
    private static final int TEXT_KIND = 0;
    private static final int HEADING_KIND = 1;
    private static final int FIRST_GUESS = 20;
    private static final int MIN_WIDTH = 5;
    private static final int MAX_WIDTH = 80;
    private static final int FIRST_WIDTH = 40;
    private static final int MIN_HEIGHT = 20;
    private static final int MAX_HEIGHT = 600;
    private static final int FIRST_HEIGHT = 100;
    private static final int MAX_DOTS = 9999;
    private static final int WHOLE = 1000;
    private static final int MAX_TEXT = 100;
    private static final int MAX_CHARACTER = 255;
    private static final int MAX_DIGITS = 4;
    private static final int MAX_NUMBERS = 3;
    private static final int MAX_STATES = 5;
    private static final int MAX_SCROLLS = 100;
    private static final int FAILURE = -1000;

    private static final int PUT = 0;
    private static final int CUT = 1;
    private static final int DOWN = 2;
    private static final int UP = 3;
    private static final int SHARE = 4;
    private static final int TO = 5;
    private static final int COMMANDS = 6;
    private static final int NO_COMMAND = -1;
    private static final int WRONG_TOKEN = -2;

    private final Window now;
    // Every action, program and forecast is tried here, so that a failing one leaves no trace.
    private final Window draft;
    private final History history;
    private final Program program;

    public WindowLines() {
        now = new Window();
        draft = new Window();
        history = new History();
        program = new Program();
    }

    // ---- lines

    public int put(int at, int kind, int length) {
        draft.copyFrom(now);
        return keepDraft(draft.putIn(at, kind, length));
    }

    public int cut(int at) {
        draft.copyFrom(now);
        return keepDraft(draft.takeOut(at));
    }

    public int change(int at, int length) {
        draft.copyFrom(now);
        return keepDraft(draft.changeLength(at, length));
    }

    // ---- window

    public int setHeight(int height) {
        draft.copyFrom(now);
        return keepDraft(draft.changeHeight(height));
    }

    public int setWidth(int width) {
        draft.copyFrom(now);
        return keepDraft(draft.changeWidth(width));
    }

    public int scroll(int dots) {
        draft.copyFrom(now);
        return keepDraft(draft.moveBy(dots));
    }

    public int jump(int share) {
        draft.copyFrom(now);
        return keepDraft(draft.moveToShare(share));
    }

    public int goTo(int line) {
        draft.copyFrom(now);
        return keepDraft(draft.moveToLine(line));
    }

    public int undo() {
        if (history.size == 0) {
            return ILLEGAL_STATE;
        }
        history.restoreTo(now);
        return history.size;
    }

    // ---- programs

    public int append(int character) {
        if (isOutside(character, 1, MAX_CHARACTER)) {
            return INVALID_ARGUMENT;
        }
        return program.add((char) character);
    }

    public int clearText() {
        return program.clear();
    }

    public int run() {
        draft.copyFrom(now);
        program.rewind();
        int commands = 0;
        int command = program.readCommand();
        while (command >= 0 && commands < MAX_TEXT) {
            if (performOnDraft(command) < 0) {
                return FAILURE - program.place;
            }
            commands++;
            command = program.readCommand();
        }
        if (command == WRONG_TOKEN) {
            return FAILURE - program.place;
        }
        program.clear();
        return keepDraft(commands);
    }

    // ---- looking

    public int count(int what) {
        switch (what) {
            case 0: return now.lines.size;
            case 1: return now.lines.measuredLines();
            case 2: return now.lines.size == 0 ? NONE : now.anchor;
            case 3: return now.lines.size == 0 ? NONE : now.shift;
            case 4: return now.lines.total();
            case 5: return now.top();
            case 6: return now.height;
            case 7: return now.lines.width;
            case 8: return now.lines.guess(0);
            case 9: return now.lines.guess(1);
            case 10: return now.lines.guess(2);
            case 11: return now.linesShown();
            case 12: return history.size;
            case 13: return program.length;
            default: return INVALID_ARGUMENT;
        }
    }

    public int line(int line, int what) {
        if (!now.lines.isLine(line)) {
            return INVALID_ARGUMENT;
        }
        switch (what) {
            case 0: return now.lines.kinds[line];
            case 1: return now.lines.lengths[line];
            case 2: return now.lines.heightOf(line);
            case 3: return now.lines.measured[line] ? 1 : 0;
            case 4: return now.lines.topOf(line);
            case 5: return now.lines.trueHeightOf(line);
            case 6: return now.lines.topOf(line) - now.top();
            default: return INVALID_ARGUMENT;
        }
    }

    public int seen(int y) {
        if (isOutside(y, 0, now.height - 1)) {
            return INVALID_ARGUMENT;
        }
        return now.lines.lineAt(now.top() + y);
    }

    public int at(int y) {
        if (y < 0) {
            return INVALID_ARGUMENT;
        }
        return now.lines.lineAt(y);
    }

    public int share() {
        int room = now.lines.total() - now.height;
        return room > 0 ? now.top() * WHOLE / room : 0;
    }

    // ---- what could be, which changes nothing

    public int trueSum(int from, int to) {
        if (!now.lines.isLine(from) || !now.lines.isLine(to) || to < from) {
            return INVALID_ARGUMENT;
        }
        int sum = 0;
        for (int line = from; line <= to; line++) {
            sum += now.lines.trueHeightOf(line);
        }
        return sum;
    }

    public int scrollsTo(int line, int dots) {
        if (!now.lines.isLine(line) || dots == 0 || isOutside(dots, -MAX_DOTS, MAX_DOTS)) {
            return INVALID_ARGUMENT;
        }
        draft.copyFrom(now);
        for (int scrolls = 0; scrolls <= MAX_SCROLLS; scrolls++) {
            if (draft.shows(line)) {
                return scrolls;
            }
            draft.moveBy(dots);
        }
        return NONE;
    }

    public int measuredBy(int share) {
        if (isOutside(share, 0, WHOLE)) {
            return INVALID_ARGUMENT;
        }
        draft.copyFrom(now);
        // Without lines this is refused and the draft stays as it is: 0 lines are due then.
        draft.moveToShare(share);
        return draft.lines.measuredLines() - now.lines.measuredLines();
    }

    // ---- helpers

    private static boolean isOutside(int number, int least, int most) {
        return number < least || number > most;
    }

    /** Makes the draft the present state as one action, unless the answer is an error code. */
    private int keepDraft(int answer) {
        if (answer >= 0) {
            history.record(now);
            now.copyFrom(draft);
        }
        return answer;
    }

    /** Performs the command that the program has read last; answers an error code if it can't be. */
    private int performOnDraft(int command) {
        int first = program.number(0);
        switch (command) {
            case PUT: return draft.putIn(first, program.number(1), program.number(2));
            case CUT: return draft.takeOut(first);
            case DOWN: return draft.moveBy(first);
            case UP: return draft.moveBy(-first);
            case SHARE: return draft.moveToShare(first);
            case TO: return draft.moveToLine(first);
            default: return INVALID_ARGUMENT;
        }
    }

    /** The lines from above, and what is known of their heights. */
    private static final class Lines {
        final int[] kinds;
        final int[] lengths;
        final boolean[] measured;
        // By kind, so that a guess needs no walk over the lines.
        final int[] measuredSums;
        final int[] measuredCounts;
        int size;
        int width;

        Lines() {
            kinds = new int[MAX_LINES];
            lengths = new int[MAX_LINES];
            measured = new boolean[MAX_LINES];
            measuredSums = new int[KINDS];
            measuredCounts = new int[KINDS];
            width = FIRST_WIDTH;
        }

        void copyFrom(Lines other) {
            if (other == null) {
                return;
            }
            System.arraycopy(other.kinds, 0, kinds, 0, MAX_LINES);
            System.arraycopy(other.lengths, 0, lengths, 0, MAX_LINES);
            System.arraycopy(other.measured, 0, measured, 0, MAX_LINES);
            System.arraycopy(other.measuredSums, 0, measuredSums, 0, KINDS);
            System.arraycopy(other.measuredCounts, 0, measuredCounts, 0, KINDS);
            size = other.size;
            width = other.width;
        }

        boolean isLine(int line) {
            return line >= 0 && line < size && line < MAX_LINES;
        }

        boolean isKind(int kind) {
            return kind >= 0 && kind < KINDS;
        }

        void insert(int at, int kind, int length) {
            if (at < 0 || at > size || size >= MAX_LINES) {
                return;
            }
            System.arraycopy(kinds, at, kinds, at + 1, size - at);
            System.arraycopy(lengths, at, lengths, at + 1, size - at);
            System.arraycopy(measured, at, measured, at + 1, size - at);
            size++;
            kinds[at] = kind;
            lengths[at] = length;
            measured[at] = false;
        }

        void remove(int at) {
            if (!isLine(at)) {
                return;
            }
            forget(at);
            size--;
            System.arraycopy(kinds, at + 1, kinds, at, size - at);
            System.arraycopy(lengths, at + 1, lengths, at, size - at);
            System.arraycopy(measured, at + 1, measured, at, size - at);
        }

        void setLength(int line, int length) {
            if (!isLine(line)) {
                return;
            }
            // Forgotten first: the sums hold the height that goes with the old length.
            forget(line);
            lengths[line] = length;
        }

        void forgetAllFor(int newWidth) {
            for (int line = 0; line < size; line++) {
                forget(line);
            }
            width = newWidth;
        }

        void measure(int line) {
            if (!isLine(line) || measured[line] || !isKind(kinds[line])) {
                return;
            }
            measured[line] = true;
            measuredSums[kinds[line]] += trueHeight(kinds[line], lengths[line]);
            measuredCounts[kinds[line]]++;
        }

        void forget(int line) {
            if (!isLine(line) || !measured[line] || !isKind(kinds[line])) {
                return;
            }
            measured[line] = false;
            measuredSums[kinds[line]] -= trueHeight(kinds[line], lengths[line]);
            measuredCounts[kinds[line]]--;
        }

        int measuredLines() {
            int found = 0;
            for (int kind = 0; kind < KINDS; kind++) {
                found += measuredCounts[kind];
            }
            return found;
        }

        int trueHeightOf(int line) {
            return isLine(line) ? trueHeight(kinds[line], lengths[line]) : 0;
        }

        int trueHeight(int kind, int length) {
            int rows = length > 0 && width > 0 ? (length + width - 1) / width : 1;
            switch (kind) {
                case TEXT_KIND: return 12 * rows + 4;
                case HEADING_KIND: return 18 * rows + 10;
                default: return length + 6;
            }
        }

        int guess(int kind) {
            if (kind < 0 || kind >= KINDS || measuredCounts[kind] <= 0) {
                return FIRST_GUESS;
            }
            return measuredSums[kind] / measuredCounts[kind];
        }

        int heightOf(int line) {
            if (!isLine(line)) {
                return 0;
            }
            return measured[line] ? trueHeight(kinds[line], lengths[line]) : guess(kinds[line]);
        }

        int topOf(int line) {
            int top = 0;
            for (int before = 0; before < line && before < size; before++) {
                top += heightOf(before);
            }
            return top;
        }

        int total() {
            return topOf(size);
        }

        /** The line at a place that is 0 or more below the top of line 0, or NONE. */
        int lineAt(int y) {
            int end = 0;
            for (int line = 0; line < size; line++) {
                end += heightOf(line);
                if (y < end) {
                    return line;
                }
            }
            return NONE;
        }
    }

    /** A state: the lines, and the window that stands over them. */
    private static final class Window {
        final Lines lines;
        int height;
        // Both are 0 as long as there are no lines.
        int anchor;
        int shift;

        Window() {
            lines = new Lines();
            height = FIRST_HEIGHT;
        }

        void copyFrom(Window other) {
            if (other == null) {
                return;
            }
            lines.copyFrom(other.lines);
            height = other.height;
            anchor = other.anchor;
            shift = other.shift;
        }

        int putIn(int at, int kind, int length) {
            if (isOutside(at, 0, lines.size) || !lines.isKind(kind)
                    || isOutside(length, 0, MAX_LENGTH)) {
                return INVALID_ARGUMENT;
            }
            if (lines.size >= MAX_LINES) {
                return CAPACITY_EXCEEDED;
            }
            if (lines.size > 0 && at <= anchor) {
                anchor++;
            }
            lines.insert(at, kind, length);
            settle();
            return lines.total();
        }

        int takeOut(int at) {
            if (!lines.isLine(at)) {
                return INVALID_ARGUMENT;
            }
            boolean wasLast = at == lines.size - 1;
            lines.remove(at);
            if (at == anchor) {
                shift = 0;
            }
            if (at < anchor || at == anchor && wasLast && anchor > 0) {
                anchor--;
            }
            settle();
            return lines.size;
        }

        int changeLength(int at, int length) {
            if (!lines.isLine(at) || isOutside(length, 0, MAX_LENGTH)) {
                return INVALID_ARGUMENT;
            }
            int previous = lines.lengths[at];
            lines.setLength(at, length);
            settle();
            return previous;
        }

        int changeHeight(int newHeight) {
            if (isOutside(newHeight, MIN_HEIGHT, MAX_HEIGHT)) {
                return INVALID_ARGUMENT;
            }
            int previous = height;
            height = newHeight;
            settle();
            return previous;
        }

        int changeWidth(int width) {
            if (isOutside(width, MIN_WIDTH, MAX_WIDTH)) {
                return INVALID_ARGUMENT;
            }
            int previous = lines.width;
            lines.forgetAllFor(width);
            settle();
            return previous;
        }

        int moveBy(int dots) {
            if (isOutside(dots, -MAX_DOTS, MAX_DOTS)) {
                return INVALID_ARGUMENT;
            }
            if (lines.size == 0) {
                return ILLEGAL_STATE;
            }
            shift += dots;
            climb();
            settle();
            return anchor;
        }

        int moveToShare(int share) {
            if (isOutside(share, 0, WHOLE)) {
                return INVALID_ARGUMENT;
            }
            if (lines.size == 0) {
                return ILLEGAL_STATE;
            }
            int place = Math.max(0, lines.total() - height) * share / WHOLE;
            anchor = Math.max(0, lines.lineAt(place));
            shift = place - lines.topOf(anchor);
            settle();
            return anchor;
        }

        int moveToLine(int line) {
            if (!lines.isLine(line)) {
                return INVALID_ARGUMENT;
            }
            anchor = line;
            shift = 0;
            settle();
            return anchor;
        }

        void settle() {
            if (lines.size == 0) {
                return;
            }
            descend();
            int bottom = shift + height;
            int next = anchor + 1;
            int end = lines.heightOf(anchor);
            while (next < lines.size && end < bottom) {
                lines.measure(next);
                end += lines.heightOf(next);
                next++;
            }
            if (next >= lines.size && end < bottom) {
                shift -= bottom - end;
                climb();
            }
        }

        /** Makes the line in which the top of the window is the anchor, if it is one below. */
        void descend() {
            lines.measure(anchor);
            while (anchor + 1 < lines.size && shift >= lines.heightOf(anchor)) {
                shift -= lines.heightOf(anchor);
                anchor++;
                lines.measure(anchor);
            }
        }

        /** Makes a line above the anchor if the top of the window is above the present one. */
        void climb() {
            while (anchor > 0 && shift < 0) {
                anchor--;
                lines.measure(anchor);
                shift += lines.heightOf(anchor);
            }
            shift = Math.max(0, shift);
        }

        int top() {
            return lines.topOf(anchor) + shift;
        }

        boolean shows(int line) {
            // The top of the window is in the anchor, so no line before it can be in the window.
            if (line < anchor) {
                return false;
            }
            int top = -shift;
            for (int before = anchor; before < line && top < height; before++) {
                top += lines.heightOf(before);
            }
            return top < height && top + lines.heightOf(line) > 0;
        }

        int linesShown() {
            int found = 0;
            int top = -shift;
            for (int line = anchor; line < lines.size && top < height; line++) {
                top += lines.heightOf(line);
                if (top > 0) {
                    found++;
                }
            }
            return found;
        }
    }

    /** The latest states, the oldest of which gives way when there is no room. */
    private static final class History {
        final Window[] states;
        int size;
        int next;

        History() {
            states = new Window[MAX_STATES];
            for (int i = 0; i < MAX_STATES; i++) {
                states[i] = new Window();
            }
        }

        void record(Window window) {
            Window state = stateAt(next);
            if (state == null) {
                return;
            }
            state.copyFrom(window);
            next = (next + 1) % MAX_STATES;
            size = Math.min(size + 1, MAX_STATES);
        }

        void restoreTo(Window window) {
            if (size == 0 || window == null) {
                return;
            }
            next = (next + MAX_STATES - 1) % MAX_STATES;
            size--;
            window.copyFrom(stateAt(next));
        }

        Window stateAt(int place) {
            return place >= 0 && place < MAX_STATES ? states[place] : null;
        }
    }

    /** The text, and how far it has been read as a program. */
    private static final class Program {
        final char[] text;
        final int[] numbers;
        int length;
        // The token that has been read last; it is empty at the end of the text.
        int start;
        int end;
        // Of the word of the command that has been read last, or of the failure.
        int place;

        Program() {
            text = new char[MAX_TEXT];
            numbers = new int[MAX_NUMBERS];
        }

        int add(char character) {
            if (length >= MAX_TEXT) {
                return CAPACITY_EXCEEDED;
            }
            text[length] = character;
            length++;
            return length;
        }

        int clear() {
            int previous = length;
            length = 0;
            return previous;
        }

        void rewind() {
            start = 0;
            end = 0;
            place = 0;
        }

        int number(int index) {
            return index >= 0 && index < MAX_NUMBERS ? numbers[index] : 0;
        }

        /** Reads a command with its ";"; answers which one, NO_COMMAND at the end, or WRONG_TOKEN. */
        int readCommand() {
            readToken();
            if (start >= length) {
                return NO_COMMAND;
            }
            place = start;
            int command = commandOfToken();
            int due = command == PUT ? MAX_NUMBERS : 1;
            for (int i = 0; i < due && command >= 0; i++) {
                readToken();
                numbers[i] = numberOfToken();
                if (numbers[i] < 0) {
                    place = start;
                    command = WRONG_TOKEN;
                }
            }
            if (command >= 0) {
                readToken();
                if (signAt(start) != ';') {
                    place = start;
                    command = WRONG_TOKEN;
                }
            }
            return command;
        }

        void readToken() {
            start = end;
            while (start < length && signAt(start) == ' ') {
                start++;
            }
            end = Math.min(start + 1, length);
            if (isLetter(signAt(start))) {
                while (end < length && isLetter(signAt(end))) {
                    end++;
                }
            } else if (isDigit(signAt(start))) {
                while (end < length && isDigit(signAt(end))) {
                    end++;
                }
            }
        }

        int commandOfToken() {
            for (int command = 0; command < COMMANDS; command++) {
                if (tokenIs(wordOf(command))) {
                    return command;
                }
            }
            return WRONG_TOKEN;
        }

        boolean tokenIs(String word) {
            if (word.length() != end - start) {
                return false;
            }
            for (int i = 0; i < word.length(); i++) {
                if (word.charAt(i) != signAt(start + i)) {
                    return false;
                }
            }
            return true;
        }

        /** The number that the token is, or -1 if it is none. */
        int numberOfToken() {
            int digits = end - start;
            if (digits < 1 || digits > MAX_DIGITS || digits > 1 && signAt(start) == '0') {
                return -1;
            }
            int number = 0;
            for (int i = start; i < end; i++) {
                if (!isDigit(signAt(i))) {
                    return -1;
                }
                number = 10 * number + signAt(i) - '0';
            }
            return number;
        }

        /** The character at an offset, or 0, which no text holds, beyond the end. */
        char signAt(int offset) {
            return offset >= 0 && offset < length && offset < MAX_TEXT ? text[offset] : 0;
        }

        static boolean isLetter(char sign) {
            return sign >= 'a' && sign <= 'z';
        }

        static boolean isDigit(char sign) {
            return sign >= '0' && sign <= '9';
        }

        static String wordOf(int command) {
            switch (command) {
                case PUT: return "put";
                case CUT: return "cut";
                case DOWN: return "down";
                case UP: return "up";
                case SHARE: return "share";
                default: return "to";
            }
        }
    }
}
