import java.util.ArrayDeque;
import java.util.ArrayList;
import java.util.Deque;
import java.util.HashSet;
import java.util.List;
import java.util.Set;
import java.util.regex.Matcher;
import java.util.regex.Pattern;

/** The document told once more, as slowly and as literally as can be: what the class is held against. */
final class ModelLoom {
    static final int[] GLYPHS = {11245, 18927, 31015, 5103, 31143, 31140, 31087, 23533, 29847, 4687,
        23469, 18727, 24557, 27501, 31599, 31716, 31689, 27565, 31183, 29842, 23407, 23402, 23549,
        23213, 23186, 29351};

    record Caption(String word, int side, int x, int y, int colour) {
        int width() {
            return 4 * word.length() - 1;
        }
    }

    static final class State {
        int width = 12;
        int height = 8;
        int delay = 4;
        int looked;
        int[] stock = {500, 500, 500, 500, 500, 500, 500};
        List<Caption> captions = new ArrayList<>();
        /** The finished rows, and above them the open one, if there is one. */
        List<int[]> rows = new ArrayList<>();
        int finished;

        State copy() {
            State s = new State();
            s.width = width;
            s.height = height;
            s.delay = delay;
            s.looked = looked;
            s.stock = stock.clone();
            s.captions = new ArrayList<>(captions);
            for (int[] row : rows) {
                s.rows.add(row.clone());
            }
            s.finished = finished;
            return s;
        }

        void openRow() {
            if (finished < height && rows.size() == finished) {
                int[] row = new int[width];
                java.util.Arrays.fill(row, -1);
                rows.add(row);
            }
        }

        int columnOf(Caption c, int across) {
            return c.side == 0 ? across : width - 1 - across;
        }

        Set<Integer> boxOf(Caption c) {
            Set<Integer> cells = new HashSet<>();
            for (int i = 0; i <= 4 * c.word.length() - 2; i++) {
                for (int j = 0; j <= 4; j++) {
                    cells.add(1000 * (c.y + j) + columnOf(c, c.x + i));
                }
            }
            return cells;
        }

        boolean lies(int letters, int x, int y) {
            return x >= 0 && y >= 0 && (long) x + 4 * letters - 2 < width && (long) y + 4 < height;
        }

        boolean clashes(Caption c, int except) {
            for (int i = 0; i < captions.size(); i++) {
                Set<Integer> both = boxOf(c);
                both.retainAll(boxOf(captions.get(i)));
                if (i != except && !both.isEmpty()) {
                    return true;
                }
            }
            return false;
        }

        int design(int column, int row) {
            for (Caption c : captions) {
                for (int k = 0; k < c.word.length(); k++) {
                    String bits = bits(GLYPHS[c.word.charAt(k) - 'a']);
                    for (int i = 0; i < 15; i++) {
                        if (bits.charAt(i) == '1' && c.y + 4 - i / 3 == row
                                && columnOf(c, c.x + 4 * k + i % 3) == column) {
                            return c.colour;
                        }
                    }
                }
            }
            return 0;
        }

        int cell(int column, int row) {
            return row < rows.size() ? rows.get(row)[column] : -1;
        }

        boolean mistake(int column, int row) {
            return row < finished && cell(column, row) != design(column, row);
        }

        boolean seen(int row) {
            return row < looked || finished - (row + 1) >= delay;
        }

        int mistakes(int from, int to, boolean seenOnly) {
            int n = 0;
            for (int row = from; row < to; row++) {
                for (int column = 0; column < width; column++) {
                    if (mistake(column, row) && (!seenOnly || seen(row))) {
                        n++;
                    }
                }
            }
            return n;
        }

        int joins(int[] row) {
            int n = 0;
            for (int column = 1; column < width; column++) {
                if (row[column] != row[column - 1]) {
                    n++;
                }
            }
            return n;
        }

        int minutes(int[] row) {
            return (int) (width * 0.25 + joins(row) * 1.75);
        }

        /** The row as it would be when woven. */
        int[] woven(int row, boolean blind, boolean whateverIsThere) {
            int[] cells = new int[width];
            for (int column = 0; column < width; column++) {
                int warp = width - 1 - column;
                int there = whateverIsThere ? -1 : cell(column, row);
                cells[column] = there >= 0 ? there : blind ? design(warp, row) : design(column, row);
            }
            return cells;
        }

        int[] needs(int row, boolean blind) {
            int[] n = new int[7];
            int[] cells = woven(row, blind, false);
            for (int column = 0; column < width; column++) {
                if (cell(column, row) < 0) {
                    n[cells[column]]++;
                }
            }
            return n;
        }

        String picture(Caption c, int k, boolean ghost) {
            StringBuilder bits = new StringBuilder();
            for (int i = 0; i < 15; i++) {
                int column = columnOf(c, c.x + 4 * k + i % 3);
                int at = ghost ? width - 1 - column : column;
                bits.append(cell(at, c.y + 4 - i / 3) == c.colour ? '1' : '0');
            }
            return bits.toString();
        }

        boolean readable(Caption c) {
            return c.y + 5 <= finished;
        }
    }

    static String bits(int glyph) {
        String s = Integer.toBinaryString(glyph);
        return "0".repeat(15 - s.length()) + s;
    }

    static String turned(String bits) {
        StringBuilder s = new StringBuilder();
        for (int i = 0; i < 15; i += 3) {
            s.append(new StringBuilder(bits.substring(i, i + 3)).reverse());
        }
        return s.toString();
    }

    static int letterOf(String bits) {
        for (int i = 0; i < 26; i++) {
            if (bits(GLYPHS[i]).equals(bits)) {
                return i + 1;
            }
        }
        return 0;
    }

    State s = new State();
    final Deque<State> undo = new ArrayDeque<>();
    final State[] saved = new State[2];
    final long[] accounts = new long[9];
    StringBuilder text = new StringBuilder();
    String output = "";
    int code;
    int position = -1;

    ModelLoom() {
        s.openRow();
    }

    // ---- texts

    int append(int... parts) {
        if (text.length() + 20 > 400) {
            throw new IllegalStateException();
        }
        for (int part : parts) {
            text.append((char) (part >>> 24)).append((char) (part >> 16 & 255));
            text.append((char) (part >> 8 & 255)).append((char) (part & 255));
        }
        return text.length();
    }

    int truncate(int length) {
        if (length < 0 || length > text.length()) {
            throw new IllegalArgumentException();
        }
        text.setLength(length);
        return length;
    }

    static final class Wrong extends RuntimeException {
        private static final long serialVersionUID = 1;
        final int code;
        final int position;

        Wrong(int code, int position) {
            this.code = code;
            this.position = position;
        }
    }

    /** A recursive descent over a list of tokens, the last of which is empty. */
    final class Parser {
        final List<String> tokens = new ArrayList<>();
        final List<Integer> starts = new ArrayList<>();
        int i;
        int commands;

        Parser() {
            Matcher m = Pattern.compile("[a-z]+|[0-9]+|[^ \\n]", Pattern.DOTALL).matcher(text);
            while (m.find()) {
                tokens.add(m.group());
                starts.add(m.start());
            }
            tokens.add("");
            starts.add(text.length());
        }

        String token() {
            return tokens.get(i);
        }

        void wrongIf(boolean is, int error) {
            if (is) {
                throw new Wrong(error, starts.get(i));
            }
        }

        void expect(String token) {
            wrongIf(!token().equals(token), 1);
            i++;
        }

        int peekNumber(int least, int most) {
            wrongIf(!token().matches("[0-9]+"), 1);
            java.math.BigInteger n = new java.math.BigInteger(token());
            wrongIf(n.compareTo(java.math.BigInteger.valueOf(least)) < 0
                || n.compareTo(java.math.BigInteger.valueOf(most)) > 0, 2);
            return n.intValueExact();
        }

        int number(int least, int most) {
            int n = peekNumber(least, most);
            i++;
            return n;
        }

        State design() {
            State d = new State();
            Set<String> once = new HashSet<>();
            expect("loom");
            d.width = number(8, 40);
            d.height = number(6, 30);
            expect(";");
            while (!token().isEmpty()) {
                switch (token()) {
                    case "caption" -> caption(d);
                    case "stock" -> {
                        i++;
                        int colour = peekNumber(0, 6);
                        wrongIf(!once.add("stock" + colour), 3);
                        i++;
                        d.stock[colour] = number(0, 9999);
                    }
                    case "delay" -> {
                        wrongIf(!once.add("delay"), 3);
                        i++;
                        d.delay = number(0, 30);
                    }
                    default -> wrongIf(true, 1);
                }
                expect(";");
            }
            d.openRow();
            return d;
        }

        void caption(State d) {
            wrongIf(d.captions.size() == 8, 6);
            i++;
            String word = token();
            wrongIf(!word.matches("[a-z]+"), 1);
            wrongIf(word.length() > 8, 2);
            i++;
            int side = 0;
            if (token().equals("rear")) {
                side = 1;
                i++;
            }
            expect("at");
            int x = number(0, d.width - 1);
            int y = peekNumber(0, d.height - 1);
            wrongIf(!d.lies(word.length(), x, y), 4);
            wrongIf(d.clashes(new Caption(word, side, x, y, 1), -1), 5);
            i++;
            expect("in");
            d.captions.add(new Caption(word, side, x, y, number(1, 6)));
        }

        List<Object> script(int depth) {
            List<Object> list = new ArrayList<>();
            while (!(depth == 0 ? "" : "}").equals(token())) {
                String word = token();
                wrongIf(!word.matches("pass|beat|weave|unpick|look|repeat"), 1);
                wrongIf(commands == 30 || depth == 3 && word.equals("repeat"), 6);
                commands++;
                i++;
                switch (word) {
                    case "pass" -> {
                        int colour = number(0, 6);
                        int from = number(0, s.width - 1);
                        list.add(new int[] {0, colour, from, number(from, s.width - 1)});
                    }
                    case "beat" -> list.add(new int[] {1});
                    case "weave" -> {
                        int rows = number(1, 30);
                        boolean blind = token().equals("blind");
                        i += blind ? 1 : 0;
                        list.add(new int[] {2, rows, blind ? 1 : 0});
                    }
                    case "unpick" -> list.add(new int[] {3, number(0, 30)});
                    case "look" -> list.add(new int[] {4});
                    default -> {
                        int times = number(1, 20);
                        expect("{");
                        List<Object> body = script(depth + 1);
                        expect("}");
                        for (int t = 0; t < times; t++) {
                            list.addAll(body);
                        }
                    }
                }
                expect(";");
            }
            return list;
        }
    }

    int load() {
        try {
            s = new Parser().design();
            code = 0;
            position = -1;
            undo.clear();
            return s.captions.size();
        } catch (Wrong e) {
            code = e.code;
            position = e.position;
            return -1;
        } finally {
            text = new StringBuilder();
        }
    }

    int play() {
        List<Object> commands;
        try {
            commands = new Parser().script(0);
            code = 0;
            position = -1;
        } catch (Wrong e) {
            code = e.code;
            position = e.position;
            return -1;
        } finally {
            text = new StringBuilder();
        }
        int done = 0;
        for (Object o : commands) {
            int[] c = (int[]) o;
            int answer = switch (c[0]) {
                case 0 -> pass(c[1], c[2], c[3]);
                case 1 -> beat();
                case 2 -> weave(c[1], c[2] == 1);
                case 3 -> unpick(c[1]);
                default -> look();
            };
            if (answer < 0) {
                break;
            }
            done++;
            if (done == 200) {
                break;
            }
        }
        return done;
    }

    // ---- what there is

    int count(int what) {
        int letters = 0;
        for (Caption c : s.captions) {
            letters += c.word.length();
        }
        int filled = 0;
        for (int column = 0; column < s.width && s.finished < s.height; column++) {
            filled += s.cell(column, s.finished) >= 0 ? 1 : 0;
        }
        int[] all = {s.width, s.height, s.finished, filled, s.captions.size(), s.delay, s.looked,
            letters, undo.size()};
        range(what, 0, all.length - 1);
        return all[what];
    }

    static void range(int n, int least, int most) {
        if (n < least || n > most) {
            throw new IllegalArgumentException();
        }
    }

    static void index(int n, int size) {
        if (n < 0 || n >= size) {
            throw new IndexOutOfBoundsException();
        }
    }

    int caption(int caption, int what) {
        index(caption, s.captions.size());
        range(what, 0, 9);
        Caption c = s.captions.get(caption);
        int read = 0;
        int turned = 0;
        int ghosts = 0;
        int wrong = 0;
        for (int k = 0; k < c.word.length(); k++) {
            int letter = c.word.charAt(k) - 'a' + 1;
            if (s.readable(c)) {
                read += letterOf(s.picture(c, k, false)) == letter ? 1 : 0;
                turned += letterOf(turned(s.picture(c, k, false))) == letter ? 1 : 0;
                ghosts += letterOf(s.picture(c, k, true)) == letter ? 1 : 0;
            }
        }
        for (int place : s.boxOf(c)) {
            wrong += s.mistake(place % 1000, place / 1000) ? 1 : 0;
        }
        int rows = 0;
        for (int y = c.y; y < c.y + 5; y++) {
            rows += y < s.finished ? 1 : 0;
        }
        return new int[] {c.word.length(), c.side, c.x, c.y, c.colour, rows, read, turned, ghosts,
            wrong}[what];
    }

    int letter(int caption, int letter, int what) {
        index(caption, s.captions.size());
        Caption c = s.captions.get(caption);
        index(letter, c.word.length());
        range(what, 0, 3);
        if (what == 0) {
            return c.word.charAt(letter) - 'a' + 1;
        }
        if (!s.readable(c)) {
            return -1;
        }
        String picture = s.picture(c, letter, false);
        return what == 1 ? letterOf(picture) : what == 2 ? letterOf(turned(picture))
            : Integer.parseInt(picture, 2);
    }

    int cell(int column, int row) {
        index(column, s.width);
        index(row, s.height);
        return s.cell(column, row);
    }

    int design(int column, int row) {
        index(column, s.width);
        index(row, s.height);
        return s.design(column, row);
    }

    int colour(int colour, int what) {
        index(colour, 7);
        range(what, 0, 4);
        int[] n = {s.stock[colour], 0, 0, 0, 0};
        for (int row = 0; row < s.height; row++) {
            for (int column = 0; column < s.width; column++) {
                boolean has = s.cell(column, row) == colour;
                n[1] += has && row < s.finished ? 1 : 0;
                n[2] += s.design(column, row) == colour ? 1 : 0;
                n[3] += s.design(column, row) == colour && s.cell(column, row) < 0 ? 1 : 0;
                n[4] += has ? 1 : 0;
            }
        }
        n[4] /= 2;
        return n[what];
    }

    int mistakes(int what) {
        range(what, 0, 5);
        int rows = 0;
        int lowest = s.finished;
        int lowestSeen = s.finished;
        for (int row = s.finished - 1; row >= 0; row--) {
            if (s.mistakes(row, row + 1, false) > 0) {
                rows++;
                lowest = row;
                lowestSeen = s.seen(row) ? row : lowestSeen;
            }
        }
        return new int[] {s.mistakes(0, s.finished, false), s.mistakes(0, s.finished, true), rows,
            lowestSeen == s.finished ? -1 : lowestSeen, s.finished - lowest,
            s.finished - lowestSeen}[what];
    }

    boolean fits() {
        for (int i = 0; i < s.captions.size(); i++) {
            if (caption(i, 6) < s.captions.get(i).word.length()) {
                return false;
            }
        }
        return s.finished == s.height;
    }

    boolean isAlike(int caption) {
        index(caption, s.captions.size());
        Caption c = s.captions.get(caption);
        for (int row = 0; row < 5; row++) {
            StringBuilder line = new StringBuilder();
            for (int k = 0; k < c.word.length(); k++) {
                line.append(k > 0 ? "0" : "");
                line.append(bits(GLYPHS[c.word.charAt(k) - 'a']), 3 * row, 3 * row + 3);
            }
            String right = line.toString();
            if (!line.reverse().toString().equals(right)) {
                return false;
            }
        }
        return true;
    }

    int joins(int row) {
        index(row, s.height);
        return row < s.finished ? s.joins(s.rows.get(row)) : -1;
    }

    List<Integer> allSlits() {
        List<Integer> all = new ArrayList<>();
        for (int column = 0; column + 1 < s.width; column++) {
            StringBuilder line = new StringBuilder();
            for (int row = 0; row < s.finished; row++) {
                line.append(s.cell(column, row) != s.cell(column + 1, row) ? 'x' : ' ');
            }
            for (String run : line.toString().split(" ")) {
                if (run.length() > 1) {
                    all.add(run.length());
                }
            }
        }
        return all;
    }

    int slits(int length) {
        range(length, 2, 30);
        int n = 0;
        for (int rows : allSlits()) {
            n += rows >= length ? 1 : 0;
        }
        return n;
    }

    int longestSlit() {
        int n = 0;
        for (int rows : allSlits()) {
            n = Math.max(n, rows);
        }
        return n;
    }

    int account(int what) {
        range(what, 0, 8);
        return (int) accounts[what];
    }

    // ---- what would be

    int lasts() {
        State t = s.copy();
        int rows = 0;
        while (t.finished < t.height) {
            int[] needs = t.needs(t.finished, false);
            for (int colour = 0; colour < 7; colour++) {
                t.stock[colour] -= needs[colour];
                if (t.stock[colour] < 0) {
                    return rows;
                }
            }
            t.finished++;
            rows++;
        }
        return rows;
    }

    int minutes(int rows) {
        range(rows, 0, 30);
        int sum = 0;
        for (int row = s.finished; row < s.height && row < s.finished + rows; row++) {
            sum += s.minutes(s.woven(row, false, false));
        }
        return sum;
    }

    int wouldErr(int row) {
        index(row, s.height);
        int[] cells = s.woven(row, true, true);
        int n = 0;
        for (int column = 0; column < s.width; column++) {
            n += cells[column] != s.design(column, row) ? 1 : 0;
        }
        return n;
    }

    int place(int letters, int side) {
        range(letters, 1, 8);
        range(side, 0, 1);
        for (int at = 0; at < 100 * s.height; at++) {
            int x = at % 100;
            int y = at / 100;
            if (s.lies(letters, x, y) && y >= s.finished
                    && !s.clashes(new Caption("a".repeat(letters), side, x, y, 1), -1)) {
                return at;
            }
        }
        return -1;
    }

    float share(int colour) {
        index(colour, 7);
        return s.finished == 0 ? 0 : (float) colour(colour, 1) / (float) (s.finished * s.width);
    }

    double meanJoins() {
        int sum = 0;
        for (int row = 0; row < s.finished; row++) {
            sum += joins(row);
        }
        return s.finished == 0 ? 0.0 : (double) sum / (double) s.finished;
    }

    // ---- acts

    int refused(int reason) {
        accounts[reason]++;
        return -reason;
    }

    void act() {
        accounts[0]++;
        undo.addLast(s.copy());
        if (undo.size() > 8) {
            undo.removeFirst();
        }
    }

    void finish() {
        accounts[8] += s.minutes(s.rows.get(s.finished));
        s.finished++;
        s.openRow();
    }

    int pass(int colour, int from, int to) {
        index(colour, 7);
        index(from, s.width);
        index(to, s.width);
        range(to, from, s.width);
        if (s.finished == s.height) {
            return refused(1);
        }
        if (s.stock[colour] < to - from + 1) {
            return refused(2);
        }
        act();
        for (int warp = from; warp <= to; warp++) {
            s.rows.get(s.finished)[s.width - 1 - warp] = colour;
            s.stock[colour]--;
        }
        return s.stock[colour];
    }

    int beat() {
        if (s.finished == s.height) {
            return refused(1);
        }
        int empty = s.width - count(3);
        if (s.stock[0] < empty) {
            return refused(2);
        }
        act();
        int[] row = s.rows.get(s.finished);
        for (int column = 0; column < s.width; column++) {
            row[column] = Math.max(0, row[column]);
        }
        s.stock[0] -= empty;
        finish();
        return s.mistakes(s.finished - 1, s.finished, false);
    }

    int weave(int rows, boolean blind) {
        range(rows, 1, 30);
        if (s.finished + rows > s.height) {
            return refused(3);
        }
        State t = s.copy();
        for (int row = s.finished; row < s.finished + rows; row++) {
            int[] needs = s.needs(row, blind);
            for (int colour = 0; colour < 7; colour++) {
                t.stock[colour] -= needs[colour];
            }
        }
        for (int colour = 0; colour < 7; colour++) {
            if (t.stock[colour] < 0) {
                return refused(2);
            }
        }
        act();
        s.stock = t.stock;
        for (int i = 0; i < rows; i++) {
            s.rows.set(s.finished, s.woven(s.finished, blind, false));
            finish();
        }
        return s.mistakes(s.finished - rows, s.finished, false);
    }

    int unpick(int rows) {
        range(rows, 0, 30);
        if (rows > s.finished) {
            return refused(3);
        }
        act();
        int[] taken = new int[7];
        int all = 0;
        while (s.rows.size() > s.finished - rows) {
            for (int colour : s.rows.remove(s.rows.size() - 1)) {
                if (colour >= 0) {
                    taken[colour]++;
                    all++;
                }
            }
        }
        for (int colour = 0; colour < 7; colour++) {
            s.stock[colour] = Math.min(9999, s.stock[colour] + taken[colour] / 2);
        }
        s.finished -= rows;
        s.looked = Math.min(s.looked, s.finished);
        s.openRow();
        return all;
    }

    int look() {
        int before = mistakes(1);
        act();
        s.looked = s.finished;
        return mistakes(1) - before;
    }

    int add(int side, int x, int y, int colour) {
        String word = text.toString();
        text = new StringBuilder();
        range(side, 0, 1);
        range(colour, 1, 6);
        if (!word.matches("[a-z]{1,8}")) {
            throw new IllegalArgumentException();
        }
        Caption c = new Caption(word, side, x, y, colour);
        if (s.captions.size() == 8) {
            return refused(4);
        }
        if (!s.lies(word.length(), x, y)) {
            return refused(5);
        }
        if (s.clashes(c, -1)) {
            return refused(6);
        }
        act();
        s.captions.add(c);
        return s.captions.size() - 1;
    }

    int drop(int caption) {
        index(caption, s.captions.size());
        act();
        s.captions.remove(caption);
        return s.captions.size();
    }

    int move(int caption, int x, int y) {
        index(caption, s.captions.size());
        Caption old = s.captions.get(caption);
        Caption c = new Caption(old.word, old.side, x, y, old.colour);
        if (!s.lies(c.word.length(), x, y)) {
            return refused(5);
        }
        if (s.clashes(c, caption)) {
            return refused(6);
        }
        act();
        s.captions.set(caption, c);
        return mistakes(0);
    }

    int setStock(int colour, int stock) {
        index(colour, 7);
        range(stock, 0, 9999);
        int before = s.stock[colour];
        act();
        s.stock[colour] = stock;
        return before;
    }

    int setDelay(int delay) {
        range(delay, 0, 30);
        int before = s.delay;
        if (before == delay) {
            return refused(7);
        }
        act();
        s.delay = delay;
        return before;
    }

    // ---- output, undo, saved states

    int writeRow(int row, boolean rear) {
        index(row, s.height);
        output = "";
        for (int i = 0; i < s.width; i++) {
            int column = rear ? s.width - 1 - i : i;
            output += s.cell(column, row) < 0 ? "." : "" + s.cell(column, row);
            output += s.mistake(column, row) && s.seen(row) ? "!" : "";
        }
        return output.length();
    }

    int writeCaption(int caption) {
        index(caption, s.captions.size());
        output = "";
        for (int k = 0; k < s.captions.get(caption).word.length(); k++) {
            output += "-?abcdefghijklmnopqrstuvwxyz".charAt(letter(caption, k, 1) + 1);
        }
        return output.length();
    }

    int output(int index) {
        return index >= 0 && index < output.length() ? output.charAt(index) : -1;
    }

    int undo() {
        if (undo.isEmpty()) {
            return -1;
        }
        s = undo.removeLast();
        return undo.size();
    }

    void save(int slot) {
        range(slot, 0, 1);
        saved[slot] = s.copy();
    }

    void restore(int slot) {
        range(slot, 0, 1);
        if (saved[slot] == null) {
            throw new IllegalStateException();
        }
        s = saved[slot].copy();
        undo.clear();
    }
}
