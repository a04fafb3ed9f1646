import java.util.ArrayDeque;
import java.util.ArrayList;
import java.util.List;
import java.util.regex.Matcher;
import java.util.regex.Pattern;

/** Runs of calls against a plain second program that follows the document word by word. */
public final class ModelTest {
    private static final int RUNS = 4000;
    private static final int CALLS = 512;
    // A long program and the last looks must not bring an object beyond its calls.
    private static final int LONGEST_STEP = 150;
    private static final int MOST_TOLD = 20;

    private static int wrong = 0;
    private static long seed = 1;

    public static void main(String[] args) {
        long calls = 0;
        for (int run = 0; run < RUNS && wrong < MOST_TOLD; run++) {
            seed = 1000003L * run + 17;
            calls += oneRun(run);
        }
        System.out.println(calls + " calls, " + wrong + " wrong");
        if (wrong != 0) {
            System.exit(1);
        }
    }

    // ---- runs

    /** A run follows one of several styles, so that full objects and long programs come up as well. */
    private static int oneRun(int run) {
        WindowLines real = new WindowLines();
        Model model = new Model();
        int style = run % 5;
        int calls = 0;
        while (calls < CALLS - LONGEST_STEP && wrong < MOST_TOLD) {
            boolean filling = style == 1 && calls < 125 || style == 2 && calls < 60;
            int dice = filling ? below(12) : below(100);
            if (dice < 12) {
                calls += putSomewhere(run, real, model);
            } else if (dice < 16 && style != 3) {
                calls += program(run, real, model);
            } else if (dice < 45) {
                calls += action(run, real, model);
            } else {
                calls += look(run, real, model);
            }
        }
        for (int what = 0; what <= 13; what++) {
            calls += due(run, "at last: count", what, 0, 0, real.count(what), model.count(what));
        }
        return calls;
    }

    private static int putSomewhere(int run, WindowLines real, Model model) {
        int at = number(0, model.now.lines.size());
        int kind = number(0, 2);
        int length = below(3) == 0 ? number(0, 400) : number(0, 90);
        return due(run, "put", at, kind, length, real.put(at, kind, length), model.put(at, kind, length));
    }

    private static int action(int run, WindowLines real, Model model) {
        int lines = model.now.lines.size();
        switch (below(9)) {
            case 0: {
                int at = number(0, lines - 1);
                return due(run, "cut", at, 0, 0, real.cut(at), model.cut(at));
            }
            case 1: {
                int at = number(0, lines - 1);
                int length = number(0, 400);
                return due(run, "change", at, length, 0, real.change(at, length), model.change(at, length));
            }
            case 2: {
                int height = below(2) == 0 ? number(20, 600) : number(20, 120);
                return due(run, "setHeight", height, 0, 0, real.setHeight(height), model.setHeight(height));
            }
            case 3: {
                int width = number(5, 80);
                return due(run, "setWidth", width, 0, 0, real.setWidth(width), model.setWidth(width));
            }
            case 4:
            case 5: {
                int dots = below(4) == 0 ? number(-9999, 9999) : number(-200, 200);
                return due(run, "scroll", dots, 0, 0, real.scroll(dots), model.scroll(dots));
            }
            case 6: {
                int share = number(0, 1000);
                return due(run, "jump", share, 0, 0, real.jump(share), model.jump(share));
            }
            case 7: {
                int line = number(0, lines - 1);
                return due(run, "goTo", line, 0, 0, real.goTo(line), model.goTo(line));
            }
            default:
                return due(run, "undo", 0, 0, 0, real.undo(), model.undo());
        }
    }

    private static int look(int run, WindowLines real, Model model) {
        int lines = model.now.lines.size();
        int from = number(0, lines - 1);
        switch (below(11)) {
            case 0:
            case 1:
            case 2: {
                int what = number(0, 13);
                return due(run, "count", what, 0, 0, real.count(what), model.count(what));
            }
            case 3:
            case 4: {
                int what = number(0, 6);
                return due(run, "line", from, what, 0, real.line(from, what), model.line(from, what));
            }
            case 5: {
                int y = number(0, model.now.height - 1);
                return due(run, "seen", y, 0, 0, real.seen(y), model.seen(y));
            }
            case 6: {
                int y = number(0, model.now.total());
                return due(run, "at", y, 0, 0, real.at(y), model.at(y));
            }
            case 7:
                return due(run, "share", 0, 0, 0, real.share(), model.share());
            case 8: {
                int to = number(from, lines - 1);
                return due(run, "trueSum", from, to, 0, real.trueSum(from, to), model.trueSum(from, to));
            }
            case 9: {
                int dots = below(3) == 0 ? number(-400, 400) : number(-30, 30);
                return due(run, "scrollsTo", from, dots, 0, real.scrollsTo(from, dots), model.scrollsTo(from, dots));
            }
            default: {
                int share = number(0, 1000);
                return due(run, "measuredBy", share, 0, 0, real.measuredBy(share), model.measuredBy(share));
            }
        }
    }

    private static int program(int run, WindowLines real, Model model) {
        String text = randomProgram(model.now.lines.size());
        int calls = 0;
        for (int i = 0; i < text.length(); i++) {
            int sign = below(60) == 0 ? number(1, 255) : text.charAt(i);
            calls += due(run, "append", sign, 0, 0, real.append(sign), model.append(sign));
        }
        String told = model.text.toString();
        calls += due(run, "run of \"" + told + "\"", 0, 0, 0, real.run(), model.run());
        if (below(4) != 0) {
            calls += due(run, "clearText", 0, 0, 0, real.clearText(), model.clearText());
        }
        return calls;
    }

    private static String randomProgram(int lines) {
        String[] words = {"put", "cut", "down", "up", "share", "to", "jump"};
        StringBuilder text = new StringBuilder();
        int commands = below(7);
        for (int i = 0; i < commands; i++) {
            int word = below(40) == 0 ? 6 : below(6);
            text.append(spaces(0)).append(words[word]).append(spaces(below(3)));
            switch (word) {
                case 0:
                    text.append(number(0, lines)).append(spaces(1)).append(number(0, 2));
                    text.append(spaces(1)).append(number(0, 400));
                    break;
                case 1:
                case 5:
                    text.append(number(0, lines - 1));
                    break;
                default:
                    text.append(number(0, word == 4 ? 1000 : 300));
                    break;
            }
            text.append(spaces(0)).append(below(30) == 0 ? "" : ";");
        }
        return below(20) == 0 ? text.substring(0, text.length() / 2) : text.toString();
    }

    private static String spaces(int least) {
        return below(6) == 0 ? "  " : least > 0 ? " " : "";
    }

    // ---- numbers

    private static int below(int bound) {
        seed = seed * 6364136223846793005L + 1442695040888963407L;
        return (int) ((seed >>> 33) % bound);
    }

    /** Mostly a number in the range, sometimes one of its ends, now and then one that is outside it. */
    private static int number(int least, int most) {
        int dice = below(60);
        if (dice == 0) {
            return new int[] {least - 1, most + 1, Integer.MIN_VALUE, Integer.MAX_VALUE, -1, 10000}[below(6)];
        }
        if (dice < 5 || most <= least) {
            return least;
        }
        return dice < 10 ? most : least + below(most - least + 1);
    }

    private static int due(int run, String call, int first, int second, int third, int got, int want) {
        if (got != want) {
            wrong++;
            System.out.println("run " + run + ": " + call + " (" + first + ", " + second + ", " + third
                    + ") answered " + got + ", due is " + want);
        }
        return 1;
    }

    // ---- the second program

    private static final class Line {
        final int kind;
        int length;
        boolean measured;

        Line(int kind, int length) {
            this.kind = kind;
            this.length = length;
        }

        int trueHeight(int width) {
            int rows = 1;
            while (rows * width < length) {
                rows++;
            }
            return kind == 0 ? 12 * rows + 4 : kind == 1 ? 18 * rows + 10 : length + 6;
        }
    }

    private static final class State {
        final List<Line> lines = new ArrayList<>();
        int width = 40;
        int height = 100;
        Line anchor = null;
        int shift = 0;

        State copy() {
            State other = new State();
            for (Line line : lines) {
                Line twin = new Line(line.kind, line.length);
                twin.measured = line.measured;
                other.lines.add(twin);
                if (line == anchor) {
                    other.anchor = twin;
                }
            }
            other.width = width;
            other.height = height;
            other.shift = shift;
            return other;
        }

        int guess(int kind) {
            int sum = 0;
            int number = 0;
            for (Line line : lines) {
                if (line.measured && line.kind == kind) {
                    sum += line.trueHeight(width);
                    number++;
                }
            }
            return number == 0 ? 20 : sum / number;
        }

        int heightOf(Line line) {
            return line.measured ? line.trueHeight(width) : guess(line.kind);
        }

        /** The tops of all lines, and the total behind them. */
        int[] tops() {
            int[] guesses = {guess(0), guess(1), guess(2)};
            int[] tops = new int[lines.size() + 1];
            for (int i = 0; i < lines.size(); i++) {
                Line line = lines.get(i);
                tops[i + 1] = tops[i] + (line.measured ? line.trueHeight(width) : guesses[line.kind]);
            }
            return tops;
        }

        int total() {
            return tops()[lines.size()];
        }

        int top() {
            return lines.isEmpty() ? 0 : tops()[anchorNumber()] + shift;
        }

        int anchorNumber() {
            return lines.indexOf(anchor);
        }

        boolean has(int line) {
            return line >= 0 && line < lines.size();
        }

        boolean isSeen(int line) {
            int[] tops = tops();
            int top = top();
            for (int dot = tops[line]; dot < tops[line + 1]; dot++) {
                if (dot >= top && dot < top + height) {
                    return true;
                }
            }
            return false;
        }

        void anchorOn(int line) {
            anchor = lines.get(line);
            anchor.measured = true;
        }

        void liftShift() {
            while (shift < 0 && anchorNumber() > 0) {
                anchorOn(anchorNumber() - 1);
                shift += heightOf(anchor);
            }
            if (shift < 0) {
                shift = 0;
            }
        }

        void settle() {
            if (lines.isEmpty()) {
                return;
            }
            anchor.measured = true;
            while (shift >= heightOf(anchor) && has(anchorNumber() + 1)) {
                shift -= heightOf(anchor);
                anchorOn(anchorNumber() + 1);
            }
            int first = anchorNumber();
            for (int i = first + 1; i < lines.size() && fromAnchor(first, i) < shift + height; i++) {
                lines.get(i).measured = true;
            }
            int last = lines.size() - 1;
            int end = fromAnchor(first, last + 1);
            boolean atLast = last == first || fromAnchor(first, last) < shift + height;
            if (atLast && end < shift + height) {
                shift -= shift + height - end;
                liftShift();
            }
        }

        int fromAnchor(int first, int to) {
            int sum = 0;
            for (int i = first; i < to; i++) {
                sum += heightOf(lines.get(i));
            }
            return sum;
        }
    }

    private static final class Model {
        State now = new State();
        ArrayDeque<State> history = new ArrayDeque<>();
        StringBuilder text = new StringBuilder();
        boolean inProgram = false;

        void record() {
            if (!inProgram) {
                history.addLast(now.copy());
                while (history.size() > 5) {
                    history.removeFirst();
                }
            }
        }

        int put(int at, int kind, int length) {
            if (at < 0 || at > now.lines.size() || kind < 0 || kind > 2 || length < 0 || length > 400) {
                return -100001;
            }
            if (now.lines.size() == 100) {
                return -100003;
            }
            record();
            now.lines.add(at, new Line(kind, length));
            if (now.lines.size() == 1) {
                now.anchor = now.lines.get(0);
                now.shift = 0;
            }
            now.settle();
            return now.total();
        }

        int cut(int at) {
            if (!now.has(at)) {
                return -100001;
            }
            record();
            Line gone = now.lines.remove(at);
            if (gone == now.anchor) {
                now.shift = 0;
                now.anchor = now.has(at) ? now.lines.get(at) : now.has(at - 1) ? now.lines.get(at - 1) : null;
            }
            now.settle();
            return now.lines.size();
        }

        int change(int at, int length) {
            if (!now.has(at) || length < 0 || length > 400) {
                return -100001;
            }
            record();
            Line line = now.lines.get(at);
            int previous = line.length;
            line.length = length;
            line.measured = false;
            now.settle();
            return previous;
        }

        int setHeight(int height) {
            if (height < 20 || height > 600) {
                return -100001;
            }
            record();
            int previous = now.height;
            now.height = height;
            now.settle();
            return previous;
        }

        int setWidth(int width) {
            if (width < 5 || width > 80) {
                return -100001;
            }
            record();
            int previous = now.width;
            now.width = width;
            for (Line line : now.lines) {
                line.measured = false;
            }
            now.settle();
            return previous;
        }

        int scroll(int dots) {
            if (dots < -9999 || dots > 9999) {
                return -100001;
            }
            if (now.lines.isEmpty()) {
                return -100002;
            }
            record();
            now.shift += dots;
            now.liftShift();
            now.settle();
            return now.anchorNumber();
        }

        int jump(int share) {
            if (share < 0 || share > 1000) {
                return -100001;
            }
            if (now.lines.isEmpty()) {
                return -100002;
            }
            record();
            int place = Math.max(now.total() - now.height, 0) * share / 1000;
            int[] tops = now.tops();
            int line = at(place);
            now.anchor = now.lines.get(line);
            now.shift = place - tops[line];
            now.settle();
            return now.anchorNumber();
        }

        int goTo(int line) {
            if (!now.has(line)) {
                return -100001;
            }
            record();
            now.anchor = now.lines.get(line);
            now.shift = 0;
            now.settle();
            return now.anchorNumber();
        }

        int undo() {
            if (history.isEmpty()) {
                return -100002;
            }
            now = history.removeLast();
            return history.size();
        }

        int append(int character) {
            if (character < 1 || character > 255) {
                return -100001;
            }
            if (text.length() == 100) {
                return -100003;
            }
            text.append((char) character);
            return text.length();
        }

        int clearText() {
            int previous = text.length();
            text.setLength(0);
            return previous;
        }

        int run() {
            State before = now.copy();
            inProgram = true;
            int answer = perform();
            inProgram = false;
            if (answer < 0) {
                now = before;
                return answer;
            }
            State after = now;
            now = before;
            record();
            now = after;
            text.setLength(0);
            return answer;
        }

        int perform() {
            Matcher tokens = Pattern.compile("[a-z]+|[0-9]+|[^ ]", Pattern.DOTALL).matcher(text);
            int commands = 0;
            while (tokens.find()) {
                int place = tokens.start();
                String word = tokens.group();
                if (!word.matches("put|cut|down|up|share|to")) {
                    return -1000 - place;
                }
                int[] numbers = new int[3];
                int due = word.equals("put") ? 3 : 1;
                for (int i = 0; i < due; i++) {
                    if (!tokens.find()) {
                        return -1000 - text.length();
                    }
                    if (!tokens.group().matches("0|[1-9][0-9]{0,3}")) {
                        return -1000 - tokens.start();
                    }
                    numbers[i] = Integer.parseInt(tokens.group());
                }
                if (!tokens.find()) {
                    return -1000 - text.length();
                }
                if (!tokens.group().equals(";")) {
                    return -1000 - tokens.start();
                }
                if (command(word, numbers) < 0) {
                    return -1000 - place;
                }
                commands++;
            }
            return commands;
        }

        int command(String word, int[] numbers) {
            switch (word) {
                case "put": return put(numbers[0], numbers[1], numbers[2]);
                case "cut": return cut(numbers[0]);
                case "down": return scroll(numbers[0]);
                case "up": return scroll(-numbers[0]);
                case "share": return jump(numbers[0]);
                default: return goTo(numbers[0]);
            }
        }

        int measured() {
            int number = 0;
            for (Line line : now.lines) {
                number += line.measured ? 1 : 0;
            }
            return number;
        }

        int count(int what) {
            int seen = 0;
            for (int i = 0; what == 11 && i < now.lines.size(); i++) {
                seen += now.isSeen(i) ? 1 : 0;
            }
            switch (what) {
                case 0: return now.lines.size();
                case 1: return measured();
                case 2: return now.lines.isEmpty() ? -100009 : now.anchorNumber();
                case 3: return now.lines.isEmpty() ? -100009 : now.shift;
                case 4: return now.total();
                case 5: return now.top();
                case 6: return now.height;
                case 7: return now.width;
                case 8:
                case 9:
                case 10: return now.guess(what - 8);
                case 11: return seen;
                case 12: return history.size();
                case 13: return text.length();
                default: return -100001;
            }
        }

        int line(int number, int what) {
            if (!now.has(number) || what < 0 || what > 6) {
                return -100001;
            }
            Line line = now.lines.get(number);
            int top = now.tops()[number];
            int[] answers = {line.kind, line.length, now.heightOf(line), line.measured ? 1 : 0, top,
                line.trueHeight(now.width), top - now.top()};
            return answers[what];
        }

        int seen(int y) {
            return y < 0 || y >= now.height ? -100001 : at(y + now.top());
        }

        int at(int y) {
            if (y < 0) {
                return -100001;
            }
            int[] tops = now.tops();
            for (int i = now.lines.size() - 1; i >= 0; i--) {
                if (tops[i] <= y && y < tops[i + 1]) {
                    return i;
                }
            }
            return -100009;
        }

        int share() {
            int room = now.total() - now.height;
            return room <= 0 ? 0 : 1000 * now.top() / room;
        }

        int trueSum(int from, int to) {
            if (!now.has(from) || !now.has(to) || from > to) {
                return -100001;
            }
            int sum = 0;
            for (Line line : now.lines.subList(from, to + 1)) {
                sum += line.trueHeight(now.width);
            }
            return sum;
        }

        int scrollsTo(int line, int dots) {
            if (!now.has(line) || dots < -9999 || dots > 9999 || dots == 0) {
                return -100001;
            }
            Model other = new Model();
            other.now = now.copy();
            int times = 0;
            while (times <= 100 && !other.now.isSeen(line)) {
                other.scroll(dots);
                times++;
            }
            return times > 100 ? -100009 : times;
        }

        int measuredBy(int share) {
            if (share < 0 || share > 1000) {
                return -100001;
            }
            Model other = new Model();
            other.now = now.copy();
            other.jump(share);
            int number = 0;
            for (int i = 0; i < now.lines.size(); i++) {
                number += other.now.lines.get(i).measured && !now.lines.get(i).measured ? 1 : 0;
            }
            return number;
        }
    }
}
