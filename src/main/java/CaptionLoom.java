import java.util.Arrays;

/** A tapestry loom that is worked from the rear; ../shared/DOC.md tells what each call answers. */
public final class CaptionLoom {
    public static final int NONE = -1;

    private static final int GROUND = 0;
    private static final int COLOURS = 7;
    private static final int LEAST_WIDTH = 8;
    private static final int MOST_WIDTH = 40;
    private static final int FIRST_WIDTH = 12;
    private static final int LEAST_HEIGHT = 6;
    private static final int MOST_HEIGHT = 30;
    private static final int FIRST_HEIGHT = 8;
    private static final int MOST_STOCK = 9999;
    private static final int FIRST_STOCK = 500;
    private static final int MOST_DELAY = 30;
    private static final int FIRST_DELAY = 4;
    private static final int MOST_ROWS = 30;

    private static final int MOST_CAPTIONS = 8;
    private static final int MOST_LETTERS = 8;
    private static final int FRONT = 0;
    private static final int REAR = 1;
    private static final int LETTER_STEP = 4;
    private static final int GLYPH_WIDTH = 3;
    private static final int GLYPH_HEIGHT = 5;
    private static final int TOP_BIT = 14;
    private static final int[] GLYPHS = {
        11245, 18927, 31015, 5103, 31143, 31140, 31087, 23533, 29847, 4687, 23469, 18727, 24557,
        27501, 31599, 31716, 31689, 27565, 31183, 29842, 23407, 23402, 23549, 23213, 23186, 29351
    };
    private static final int LEAST_BITS = 4681;

    private static final int MOST_TEXT = 400;
    private static final int APPENDED = 20;
    private static final int MOST_COMMANDS = 30;
    private static final int MOST_TIMES = 20;
    private static final int MOST_DEPTH = 3;
    private static final int MOST_PLAYED = 200;
    private static final int NO_SUCH_TOKEN = 1;
    private static final int OUT_OF_RANGE = 2;
    private static final int SECOND_ONE = 3;
    private static final int OFF_THE_LOOM = 4;
    private static final int ON_ANOTHER = 5;
    private static final int ONE_TOO_MANY = 6;

    private static final int NOT_OPEN = 1;
    private static final int NO_STOCK = 2;
    private static final int NO_SUCH_ROWS = 3;
    private static final int NO_MORE_CAPTIONS = 4;
    private static final int BOX_OFF_LOOM = 5;
    private static final int BOX_ON_ANOTHER = 6;
    private static final int SAME_DELAY = 7;

    private static final int ACTS_DONE = 0;
    private static final int MINUTES = 8;
    private static final int ACCOUNTS = 9;
    private static final int MOST_UNDONE = 8;
    private static final int SLOTS = 2;

    private final Loom now = new Loom();
    private final Loom draft = new Loom();
    private final Caption box = new Caption();
    private final History history = new History();
    private final Loom savedFirst = new Loom();
    private final Loom savedSecond = new Loom();
    /** A bit for each slot in which something is saved. */
    private int slotsInUse;
    private final int[] accounts = new int[ACCOUNTS];
    private final int[] amounts = new int[COLOURS];
    private final Bytes text = new Bytes();
    private final Bytes written = new Bytes();
    private final Reader reader = new Reader(text);
    private final DesignReader designReader = new DesignReader(reader);
    private final Script script = new Script(reader);

    public CaptionLoom() {
        // the fields make an empty loom
    }

    // ---- texts

    public int append(int a, int b, int c, int d, int e) throws IllegalStateException {
        if (text.size() > MOST_TEXT - APPENDED) {
            throw new IllegalStateException("the text would be too long");
        }
        appendFour(a);
        appendFour(b);
        appendFour(c);
        appendFour(d);
        appendFour(e);
        return text.size();
    }

    public int truncate(int length) throws IllegalArgumentException {
        if (length < 0 || length > text.size()) {
            throw new IllegalArgumentException("length is out of range");
        }
        text.cutTo(length);
        return length;
    }

    public int load() {
        boolean isRight = designReader.readInto(draft);
        text.cutTo(0);
        if (!isRight) {
            return NONE;
        }
        draft.paint();
        now.copyFrom(draft);
        history.clear();
        return now.captionCount;
    }

    public int play() {
        boolean isRight = script.compile(now.width);
        text.cutTo(0);
        if (!isRight) {
            return NONE;
        }
        int done = 0;
        script.rewind();
        while (done < MOST_PLAYED && script.advance() && doCommand() >= 0) {
            done++;
        }
        return done;
    }

    public int errorCode() {
        return reader.code;
    }

    public int errorPosition() {
        return reader.position;
    }

    // ---- what there is

    public int count(int what) throws IllegalArgumentException {
        switch (what) {
            case 0:
                return now.width;
            case 1:
                return now.height;
            case 2:
                return now.finished;
            case 3:
                return now.filledCells();
            case 4:
                return now.captionCount;
            case 5:
                return now.delay;
            case 6:
                return now.looked;
            case 7:
                return now.allLetters();
            case 8:
                return history.size;
            default:
                throw new IllegalArgumentException("what is out of range");
        }
    }

    public int caption(int caption, int what)
            throws IndexOutOfBoundsException, IllegalArgumentException {
        checkCaption(caption);
        Caption told = now.captionAt(caption);
        switch (what) {
            case 0:
                return told.letters;
            case 1:
                return told.side;
            case 2:
                return told.x;
            case 3:
                return told.y;
            case 4:
                return told.colour;
            case 5:
                return now.finishedRowsOf(told);
            case 6:
                return now.lettersRead(told);
            case 7:
                return now.lettersReadTurned(told);
            case 8:
                return now.ghostsShown(told);
            case 9:
                return now.mistakesInBox(told);
            default:
                throw new IllegalArgumentException("what is out of range");
        }
    }

    public int letter(int caption, int letter, int what)
            throws IndexOutOfBoundsException, IllegalArgumentException {
        checkCaption(caption);
        Caption told = now.captionAt(caption);
        if (letter < 0 || letter >= told.letters) {
            throw new IndexOutOfBoundsException("no such letter");
        }
        switch (what) {
            case 0:
                return told.letterAt(letter);
            case 1:
                return now.read(told, letter);
            case 2:
                return now.readTurned(told, letter);
            case 3:
                return now.isReadable(told) ? now.picture(told, letter) : NONE;
            default:
                throw new IllegalArgumentException("what is out of range");
        }
    }

    public int cell(int column, int row) throws IndexOutOfBoundsException {
        checkCell(column, row);
        return now.cloth.get(column, row);
    }

    public int design(int column, int row) throws IndexOutOfBoundsException {
        checkCell(column, row);
        return now.plan.get(column, row);
    }

    public int colour(int colour, int what)
            throws IndexOutOfBoundsException, IllegalArgumentException {
        checkColour(colour);
        switch (what) {
            case 0:
                return now.stockOf(colour);
            case 1:
                return now.wovenCells(colour, 0, now.finished);
            case 2:
                return now.plannedCells(colour);
            case 3:
                return now.cellsToWeave(colour);
            case 4:
                return now.wovenCells(colour, 0, now.height) / 2;
            default:
                throw new IllegalArgumentException("what is out of range");
        }
    }

    public int mistakes(int what) throws IllegalArgumentException {
        switch (what) {
            case 0:
                return now.mistakesFrom(0);
            case 1:
                return now.seenMistakes();
            case 2:
                return now.faultyRows();
            case 3:
                return now.lowestFaultyRow(true);
            case 4:
                return now.rowsDownTo(now.lowestFaultyRow(false));
            case 5:
                return now.rowsDownTo(now.lowestFaultyRow(true));
            default:
                throw new IllegalArgumentException("what is out of range");
        }
    }

    public boolean fits() {
        if (now.isOpen()) {
            return false;
        }
        for (int i = 0; i < now.captionCount; i++) {
            Caption told = now.captionAt(i);
            if (now.lettersRead(told) != told.letters) {
                return false;
            }
        }
        return true;
    }

    public boolean isAlike(int caption) throws IndexOutOfBoundsException {
        checkCaption(caption);
        return now.captionAt(caption).isMirrored();
    }

    public int joins(int row) throws IndexOutOfBoundsException {
        checkRow(row);
        return row < now.finished ? now.joinsOf(row) : NONE;
    }

    public int slits(int length) throws IllegalArgumentException {
        if (length < 2 || length > MOST_ROWS) {
            throw new IllegalArgumentException("length is out of range");
        }
        return now.slitsOf(length);
    }

    public int longestSlit() {
        int longest = now.longestRun();
        return longest < 2 ? 0 : longest;
    }

    public int account(int what) throws IllegalArgumentException {
        if (what < 0 || what >= ACCOUNTS) {
            throw new IllegalArgumentException("what is out of range");
        }
        return at(accounts, what);
    }

    // ---- what would be (nothing changes)

    public int lasts() {
        Arrays.fill(amounts, 0);
        int rows = 0;
        for (int row = now.finished; row < now.height; row++) {
            now.addNeeds(amounts, row, false);
            if (!now.suffices(amounts)) {
                return rows;
            }
            rows++;
        }
        return rows;
    }

    public int minutes(int rows) throws IllegalArgumentException {
        if (rows < 0 || rows > MOST_ROWS) {
            throw new IllegalArgumentException("rows is out of range");
        }
        int behind = Math.min(now.height, now.finished + rows);
        int sum = 0;
        for (int row = now.finished; row < behind; row++) {
            sum += now.minutesFor(now.joinsOf(row));
        }
        return sum;
    }

    public int wouldErr(int row) throws IndexOutOfBoundsException {
        checkRow(row);
        int wrong = 0;
        for (int column = 0; column < now.width; column++) {
            if (now.planned(column, row, true) != now.planned(column, row, false)) {
                wrong++;
            }
        }
        return wrong;
    }

    public int place(int letters, int side) throws IllegalArgumentException {
        if (letters < 1 || letters > MOST_LETTERS || !isSide(side)) {
            throw new IllegalArgumentException("letters or side is out of range");
        }
        box.letters = letters;
        box.side = side;
        for (int y = now.finished; y < now.height; y++) {
            for (int x = 0; x < now.width; x++) {
                box.putAt(x, y);
                if (now.holds(box) && now.isFree(box, NONE)) {
                    return 100 * y + x;
                }
            }
        }
        return NONE;
    }

    public float share(int colour) throws IndexOutOfBoundsException {
        checkColour(colour);
        int all = now.finished * now.width;
        if (all <= 0) {
            return 0.0f;
        }
        return (float) now.wovenCells(colour, 0, now.finished) / (float) all;
    }

    public double meanJoins() {
        if (now.finished <= 0) {
            return 0.0;
        }
        int sum = 0;
        for (int row = 0; row < now.finished; row++) {
            sum += now.joinsOf(row);
        }
        return (double) sum / (double) now.finished;
    }

    // ---- acts: a number as told, or minus the reason

    public int pass(int colour, int from, int to)
            throws IndexOutOfBoundsException, IllegalArgumentException {
        checkColour(colour);
        if (!now.hasColumn(from) || !now.hasColumn(to)) {
            throw new IndexOutOfBoundsException("no such warp");
        }
        if (to < from) {
            throw new IllegalArgumentException("to is less than from");
        }
        return doPass(colour, from, to);
    }

    public int beat() {
        return doBeat();
    }

    public int weave(int rows, boolean isBlind) throws IllegalArgumentException {
        if (rows < 1 || rows > MOST_ROWS) {
            throw new IllegalArgumentException("rows is out of range");
        }
        return doWeave(rows, isBlind);
    }

    public int unpick(int rows) throws IllegalArgumentException {
        if (rows < 0 || rows > MOST_ROWS) {
            throw new IllegalArgumentException("rows is out of range");
        }
        return doUnpick(rows);
    }

    public int look() {
        return doLook();
    }

    public int add(int side, int x, int y, int colour) throws IllegalArgumentException {
        boolean isWord = isWordOfText();
        if (isWord) {
            box.takeWord(text, 0, text.size());
        }
        text.cutTo(0);
        if (!isWord || !isSide(side) || colour <= GROUND || colour >= COLOURS) {
            throw new IllegalArgumentException("side or colour is out of range, or no word");
        }
        box.side = side;
        box.colour = colour;
        box.putAt(x, y);
        if (now.captionCount >= MOST_CAPTIONS) {
            return refuse(NO_MORE_CAPTIONS);
        }
        int reason = reasonAgainstBox(NONE);
        if (reason != 0) {
            return refuse(reason);
        }
        beginAct();
        now.hang(box);
        now.paint();
        return now.captionCount - 1;
    }

    public int drop(int caption) throws IndexOutOfBoundsException {
        checkCaption(caption);
        beginAct();
        now.takeAway(caption);
        now.paint();
        return now.captionCount;
    }

    public int move(int caption, int x, int y) throws IndexOutOfBoundsException {
        checkCaption(caption);
        box.copyFrom(now.captionAt(caption));
        box.putAt(x, y);
        int reason = reasonAgainstBox(caption);
        if (reason != 0) {
            return refuse(reason);
        }
        beginAct();
        now.captionAt(caption).putAt(x, y);
        now.paint();
        return now.mistakesFrom(0);
    }

    public int setStock(int colour, int stock)
            throws IndexOutOfBoundsException, IllegalArgumentException {
        checkColour(colour);
        if (stock < 0 || stock > MOST_STOCK) {
            throw new IllegalArgumentException("stock is out of range");
        }
        int before = now.stockOf(colour);
        beginAct();
        put(now.stocks, colour, stock);
        return before;
    }

    public int setDelay(int delay) throws IllegalArgumentException {
        if (delay < 0 || delay > MOST_DELAY) {
            throw new IllegalArgumentException("delay is out of range");
        }
        int before = now.delay;
        if (delay == before) {
            return refuse(SAME_DELAY);
        }
        beginAct();
        now.delay = delay;
        return before;
    }

    // ---- output

    public int writeRow(int row, boolean isRear) throws IndexOutOfBoundsException {
        checkRow(row);
        written.cutTo(0);
        for (int i = 0; i < now.width; i++) {
            int column = isRear ? now.turned(i) : i;
            int colour = now.cloth.get(column, row);
            written.addByte(colour == NONE ? '.' : '0' + colour);
            if (now.isSeen(row) && now.isMistake(column, row)) {
                written.addByte('!');
            }
        }
        return written.size();
    }

    public int writeCaption(int caption) throws IndexOutOfBoundsException {
        checkCaption(caption);
        Caption told = now.captionAt(caption);
        written.cutTo(0);
        for (int k = 0; k < told.letters; k++) {
            written.addByte(signFor(now.read(told, k)));
        }
        return written.size();
    }

    public int output(int index) {
        return written.byteAt(index);
    }

    // ---- undo, saved states

    public int undo() {
        if (history.size == 0) {
            return NONE;
        }
        now.copyFrom(history.takeLatest());
        return history.size;
    }

    public void save(int slot) throws IllegalArgumentException {
        checkSlot(slot);
        savedIn(slot).copyFrom(now);
        slotsInUse |= 1 << slot;
    }

    public void restore(int slot) throws IllegalArgumentException, IllegalStateException {
        checkSlot(slot);
        if ((slotsInUse & 1 << slot) == 0) {
            throw new IllegalStateException("nothing is saved there");
        }
        now.copyFrom(savedIn(slot));
        history.clear();
    }

    // ---- what the calls share

    /** The element, or 0 where there is none: no index can make the machine throw. */
    private static int at(int[] numbers, int index) {
        return index >= 0 && index < numbers.length ? numbers[index] : 0;
    }

    private static void put(int[] numbers, int index, int value) {
        if (index >= 0 && index < numbers.length) {
            numbers[index] = value;
        }
    }

    private static boolean isLetter(int sign) {
        return sign >= 'a' && sign <= 'z';
    }

    private static boolean isDigit(int sign) {
        return sign >= '0' && sign <= '9';
    }

    private static boolean isSide(int side) {
        return side == FRONT || side == REAR;
    }

    /** The picture with the three bits of each row in reverse order. */
    private static int mirrored(int picture) {
        int least = picture & LEAST_BITS;
        int middle = picture & (LEAST_BITS << 1);
        int highest = (picture >> 2) & LEAST_BITS;
        return (least << 2) | middle | highest;
    }

    /** The letter with this glyph, 1 for a; 0 if there is none. */
    private static int letterFor(int picture) {
        for (int i = 0; i < GLYPHS.length; i++) {
            if (GLYPHS[i] == picture) {
                return i + 1;
            }
        }
        return 0;
    }

    private static int signFor(int read) {
        if (read == NONE) {
            return '-';
        }
        return read == 0 ? '?' : 'a' - 1 + read;
    }

    private void checkCaption(int caption) {
        if (caption < 0 || caption >= now.captionCount) {
            throw new IndexOutOfBoundsException("no such caption");
        }
    }

    private void checkCell(int column, int row) {
        if (!now.hasColumn(column) || !now.hasRow(row)) {
            throw new IndexOutOfBoundsException("no such cell");
        }
    }

    private void checkRow(int row) {
        if (!now.hasRow(row)) {
            throw new IndexOutOfBoundsException("no such row");
        }
    }

    private void checkColour(int colour) {
        if (colour < 0 || colour >= COLOURS) {
            throw new IndexOutOfBoundsException("no such colour");
        }
    }

    private void checkSlot(int slot) {
        if (slot < 0 || slot >= SLOTS) {
            throw new IllegalArgumentException("slot is out of range");
        }
    }

    private Loom savedIn(int slot) {
        return slot == 0 ? savedFirst : savedSecond;
    }

    private void appendFour(int signs) {
        for (int shift = 24; shift >= 0; shift -= 8) {
            text.addByte((signs >>> shift) & 255);
        }
    }

    private boolean isWordOfText() {
        if (text.size() < 1 || text.size() > MOST_LETTERS) {
            return false;
        }
        for (int i = 0; i < text.size(); i++) {
            if (!isLetter(text.byteAt(i))) {
                return false;
            }
        }
        return true;
    }

    private int reasonAgainstBox(int except) {
        if (!now.holds(box)) {
            return BOX_OFF_LOOM;
        }
        return now.isFree(box, except) ? 0 : BOX_ON_ANOTHER;
    }

    private int refuse(int reason) {
        put(accounts, reason, at(accounts, reason) + 1);
        return -reason;
    }

    /** Every act that is done begins here, ahead of its first change, so that undo finds it. */
    private void beginAct() {
        put(accounts, ACTS_DONE, at(accounts, ACTS_DONE) + 1);
        history.keep(now);
    }

    private int doCommand() {
        int first = script.argument(0);
        switch (script.kind()) {
            case Script.PASS:
                return doPass(first, script.argument(1), script.argument(2));
            case Script.BEAT:
                return doBeat();
            case Script.WEAVE:
                return doWeave(first, script.argument(1) == 1);
            case Script.UNPICK:
                return doUnpick(first);
            default:
                return doLook();
        }
    }

    private int doPass(int colour, int from, int to) {
        int cells = to - from + 1;
        if (!now.isOpen()) {
            return refuse(NOT_OPEN);
        }
        if (now.stockOf(colour) < cells) {
            return refuse(NO_STOCK);
        }
        beginAct();
        for (int warp = from; warp <= to; warp++) {
            now.giveCell(now.turned(warp), now.finished, colour);
        }
        return now.stockOf(colour);
    }

    private int doBeat() {
        if (!now.isOpen()) {
            return refuse(NOT_OPEN);
        }
        if (now.stockOf(GROUND) < now.width - now.filledCells()) {
            return refuse(NO_STOCK);
        }
        beginAct();
        int row = now.finished;
        for (int column = 0; column < now.width; column++) {
            if (now.isEmpty(column, row)) {
                now.giveCell(column, row, GROUND);
            }
        }
        finishRow();
        return now.mistakesOf(row);
    }

    private int doWeave(int rows, boolean isBlind) {
        int first = now.finished;
        if (rows > now.height - first) {
            return refuse(NO_SUCH_ROWS);
        }
        Arrays.fill(amounts, 0);
        for (int row = first; row < first + rows; row++) {
            now.addNeeds(amounts, row, isBlind);
        }
        if (!now.suffices(amounts)) {
            return refuse(NO_STOCK);
        }
        beginAct();
        for (int row = first; row < first + rows; row++) {
            now.fillRow(row, isBlind);
            finishRow();
        }
        return now.mistakesFrom(first);
    }

    private void finishRow() {
        int minutes = now.minutesFor(now.joinsOf(now.finished));
        put(accounts, MINUTES, at(accounts, MINUTES) + minutes);
        now.finished++;
    }

    private int doUnpick(int rows) {
        if (rows > now.finished) {
            return refuse(NO_SUCH_ROWS);
        }
        beginAct();
        int lowest = now.finished - rows;
        int cells = 0;
        for (int colour = 0; colour < COLOURS; colour++) {
            int taken = now.wovenCells(colour, lowest, now.height);
            put(now.stocks, colour, Math.min(MOST_STOCK, now.stockOf(colour) + taken / 2));
            cells += taken;
        }
        now.clearFrom(lowest);
        return cells;
    }

    private int doLook() {
        int before = now.seenMistakes();
        beginAct();
        now.looked = now.finished;
        return now.seenMistakes() - before;
    }

    /** Bytes that are collected: the text buffer, and the output. */
    private static final class Bytes {
        private final int[] bytes = new int[MOST_TEXT];
        private int length;

        int size() {
            return length;
        }

        void cutTo(int size) {
            length = size;
        }

        void addByte(int value) {
            if (length < bytes.length) {
                put(bytes, length, value);
                length++;
            }
        }

        int byteAt(int index) {
            return index >= 0 && index < length && index < bytes.length ? bytes[index] : NONE;
        }
    }

    /** A colour, or NONE, for each cell; packed, as undo keeps many copies: an octal digit a cell. */
    private static final class Grid {
        private static final int CELLS_A_WORD = 20;
        private static final int WORDS_A_ROW = 2;
        private static final int DIGIT_BITS = 3;
        private static final long DIGIT = 7;
        private static final long ALL_NONE = -1;
        private static final long ALL_GROUND = 0;
        private final long[] words = new long[WORDS_A_ROW * MOST_HEIGHT];

        void copyFrom(Grid other) {
            System.arraycopy(other.words, 0, words, 0, words.length);
        }

        int get(int column, int row) {
            int index = WORDS_A_ROW * row + column / CELLS_A_WORD;
            if (!isCell(column, row) || index < 0 || index >= words.length) {
                return NONE;
            }
            long digit = (words[index] >>> shiftOf(column)) & DIGIT;
            return digit == DIGIT ? NONE : (int) digit;
        }

        void set(int column, int row, int colour) {
            int index = WORDS_A_ROW * row + column / CELLS_A_WORD;
            if (!isCell(column, row) || index < 0 || index >= words.length) {
                return;
            }
            int shift = shiftOf(column);
            words[index] = (words[index] & ~(DIGIT << shift)) | ((colour & DIGIT) << shift);
        }

        void clearToGround() {
            Arrays.fill(words, ALL_GROUND);
        }

        void clearFrom(int row) {
            for (int i = Math.max(0, WORDS_A_ROW * row); i < words.length; i++) {
                words[i] = ALL_NONE;
            }
        }

        private static boolean isCell(int column, int row) {
            return column >= 0 && column < MOST_WIDTH && row >= 0 && row < MOST_HEIGHT;
        }

        private static int shiftOf(int column) {
            return DIGIT_BITS * (column % CELLS_A_WORD);
        }
    }

    /** A caption, or a box that may become one. */
    private static final class Caption {
        private final int[] word = new int[MOST_LETTERS];
        int letters;
        int side;
        int x;
        int y;
        int colour;

        void copyFrom(Caption other) {
            System.arraycopy(other.word, 0, word, 0, word.length);
            letters = other.letters;
            side = other.side;
            x = other.x;
            y = other.y;
            colour = other.colour;
        }

        void takeWord(Bytes text, int from, int behind) {
            letters = Math.min(behind - from, MOST_LETTERS);
            for (int k = 0; k < letters; k++) {
                put(word, k, text.byteAt(from + k) - 'a' + 1);
            }
        }

        void putAt(int newX, int newY) {
            x = newX;
            y = newY;
        }

        int letterAt(int k) {
            return at(word, k);
        }

        int glyphAt(int k) {
            return at(GLYPHS, letterAt(k) - 1);
        }

        int boxWidth() {
            return LETTER_STEP * letters - 1;
        }

        int leftColumn(int width) {
            return side == FRONT ? x : width - x - boxWidth();
        }

        boolean meets(Caption other, int width) {
            // by columns or by warps, as this one's x is
            int otherX = side == other.side ? other.x : width - other.x - other.boxWidth();
            return x < otherX + other.boxWidth() && otherX < x + boxWidth()
                && y < other.y + GLYPH_HEIGHT && other.y < y + GLYPH_HEIGHT;
        }

        boolean isMirrored() {
            for (int k = 0; k < letters; k++) {
                if (glyphAt(letters - 1 - k) != mirrored(glyphAt(k))) {
                    return false;
                }
            }
            return true;
        }
    }

    /** All that acts can change; the plan is the design of its captions. */
    private static final class Loom {
        final Grid cloth = new Grid();
        final Grid plan = new Grid();
        final int[] stocks = new int[COLOURS];
        private final Caption[] captions = new Caption[MOST_CAPTIONS];
        private final Caption noCaption = new Caption();
        int captionCount;
        int width;
        int height;
        int finished;
        int looked;
        int delay;

        Loom() {
            for (int i = 0; i < captions.length; i++) {
                captions[i] = new Caption();
            }
            reset(FIRST_WIDTH, FIRST_HEIGHT);
        }

        void reset(int newWidth, int newHeight) {
            width = newWidth;
            height = newHeight;
            finished = 0;
            looked = 0;
            delay = FIRST_DELAY;
            captionCount = 0;
            Arrays.fill(stocks, FIRST_STOCK);
            cloth.clearFrom(0);
            plan.clearToGround();
        }

        void copyFrom(Loom other) {
            width = other.width;
            height = other.height;
            finished = other.finished;
            looked = other.looked;
            delay = other.delay;
            captionCount = other.captionCount;
            System.arraycopy(other.stocks, 0, stocks, 0, stocks.length);
            for (int i = 0; i < captionCount; i++) {
                captionAt(i).copyFrom(other.captionAt(i));
            }
            cloth.copyFrom(other.cloth);
            plan.copyFrom(other.plan);
        }

        boolean hasColumn(int column) {
            return column >= 0 && column < width;
        }

        boolean hasRow(int row) {
            return row >= 0 && row < height;
        }

        boolean isOpen() {
            return finished < height;
        }

        /** The column of a warp, and the warp of a column. */
        int turned(int column) {
            return width - 1 - column;
        }

        int stockOf(int colour) {
            return at(stocks, colour);
        }

        Caption captionAt(int index) {
            return index >= 0 && index < captions.length ? captions[index] : noCaption;
        }

        int allLetters() {
            int sum = 0;
            for (int i = 0; i < captionCount; i++) {
                sum += captionAt(i).letters;
            }
            return sum;
        }

        boolean holds(Caption box) {
            return box.x >= 0 && box.x <= width - box.boxWidth()
                && box.y >= 0 && box.y <= height - GLYPH_HEIGHT;
        }

        /** Whether the box, which lies on the loom, meets no caption but the one excepted. */
        boolean isFree(Caption box, int except) {
            for (int i = 0; i < captionCount; i++) {
                if (i != except && box.meets(captionAt(i), width)) {
                    return false;
                }
            }
            return true;
        }

        void hang(Caption box) {
            captionAt(captionCount).copyFrom(box);
            captionCount++;
        }

        void takeAway(int index) {
            for (int i = index; i < captionCount - 1; i++) {
                captionAt(i).copyFrom(captionAt(i + 1));
            }
            captionCount--;
        }

        /** To be called whenever the captions changed. */
        void paint() {
            plan.clearToGround();
            for (int i = 0; i < captionCount; i++) {
                Caption told = captionAt(i);
                for (int k = 0; k < told.letters; k++) {
                    paintLetter(told, k);
                }
            }
        }

        private void paintLetter(Caption told, int k) {
            int glyph = told.glyphAt(k);
            for (int bit = 0; bit <= TOP_BIT; bit++) {
                if ((glyph >> bit & 1) == 1) {
                    plan.set(columnOfBit(told, k, bit), rowOfBit(told, bit), told.colour);
                }
            }
        }

        private int columnOfBit(Caption told, int k, int bit) {
            int across = told.x + LETTER_STEP * k + (TOP_BIT - bit) % GLYPH_WIDTH;
            return told.side == FRONT ? across : turned(across);
        }

        private int rowOfBit(Caption told, int bit) {
            return told.y + bit / GLYPH_WIDTH;
        }

        int picture(Caption told, int k) {
            int picture = 0;
            for (int bit = TOP_BIT; bit >= 0; bit--) {
                int colour = cloth.get(columnOfBit(told, k, bit), rowOfBit(told, bit));
                picture = 2 * picture + (colour == told.colour ? 1 : 0);
            }
            return picture;
        }

        private int ghost(Caption told, int k) {
            int picture = 0;
            for (int bit = TOP_BIT; bit >= 0; bit--) {
                int colour = cloth.get(turned(columnOfBit(told, k, bit)), rowOfBit(told, bit));
                picture = 2 * picture + (colour == told.colour ? 1 : 0);
            }
            return picture;
        }

        int finishedRowsOf(Caption told) {
            return Math.max(0, Math.min(GLYPH_HEIGHT, finished - told.y));
        }

        boolean isReadable(Caption told) {
            return finishedRowsOf(told) == GLYPH_HEIGHT;
        }

        int read(Caption told, int k) {
            return isReadable(told) ? letterFor(picture(told, k)) : NONE;
        }

        int readTurned(Caption told, int k) {
            return isReadable(told) ? letterFor(mirrored(picture(told, k))) : NONE;
        }

        int lettersRead(Caption told) {
            int letters = 0;
            for (int k = 0; k < told.letters; k++) {
                if (read(told, k) == told.letterAt(k)) {
                    letters++;
                }
            }
            return letters;
        }

        int lettersReadTurned(Caption told) {
            int letters = 0;
            for (int k = 0; k < told.letters; k++) {
                if (readTurned(told, k) == told.letterAt(k)) {
                    letters++;
                }
            }
            return letters;
        }

        int ghostsShown(Caption told) {
            int letters = 0;
            for (int k = 0; k < told.letters && isReadable(told); k++) {
                if (ghost(told, k) == told.glyphAt(k)) {
                    letters++;
                }
            }
            return letters;
        }

        int mistakesInBox(Caption told) {
            int left = told.leftColumn(width);
            int wrong = 0;
            for (int row = told.y; row < told.y + GLYPH_HEIGHT; row++) {
                for (int column = left; column < left + told.boxWidth(); column++) {
                    if (isMistake(column, row)) {
                        wrong++;
                    }
                }
            }
            return wrong;
        }

        boolean isEmpty(int column, int row) {
            return cloth.get(column, row) == NONE;
        }

        int filledCells() {
            int cells = 0;
            for (int column = 0; column < width; column++) {
                if (isOpen() && !isEmpty(column, finished)) {
                    cells++;
                }
            }
            return cells;
        }

        int wovenCells(int colour, int from, int behind) {
            int cells = 0;
            for (int row = from; row < behind; row++) {
                for (int column = 0; column < width; column++) {
                    if (cloth.get(column, row) == colour) {
                        cells++;
                    }
                }
            }
            return cells;
        }

        int plannedCells(int colour) {
            int cells = 0;
            for (int row = 0; row < height; row++) {
                for (int column = 0; column < width; column++) {
                    if (plan.get(column, row) == colour) {
                        cells++;
                    }
                }
            }
            return cells;
        }

        int cellsToWeave(int colour) {
            int cells = 0;
            for (int row = finished; row < height; row++) {
                for (int column = 0; column < width; column++) {
                    if (isEmpty(column, row) && plan.get(column, row) == colour) {
                        cells++;
                    }
                }
            }
            return cells;
        }

        /** What weaving gives an empty cell. */
        int planned(int column, int row, boolean isBlind) {
            return plan.get(isBlind ? turned(column) : column, row);
        }

        void addNeeds(int[] needs, int row, boolean isBlind) {
            for (int column = 0; column < width; column++) {
                if (isEmpty(column, row)) {
                    int colour = planned(column, row, isBlind);
                    put(needs, colour, at(needs, colour) + 1);
                }
            }
        }

        boolean suffices(int[] needs) {
            for (int colour = 0; colour < COLOURS; colour++) {
                if (stockOf(colour) < at(needs, colour)) {
                    return false;
                }
            }
            return true;
        }

        void giveCell(int column, int row, int colour) {
            cloth.set(column, row, colour);
            put(stocks, colour, stockOf(colour) - 1);
        }

        void fillRow(int row, boolean isBlind) {
            for (int column = 0; column < width; column++) {
                if (isEmpty(column, row)) {
                    giveCell(column, row, planned(column, row, isBlind));
                }
            }
        }

        void clearFrom(int row) {
            cloth.clearFrom(row);
            finished = row;
            looked = Math.min(looked, row);
        }

        boolean isMistake(int column, int row) {
            return row < finished && cloth.get(column, row) != plan.get(column, row);
        }

        boolean isSeen(int row) {
            return row < looked || finished - 1 - row >= delay;
        }

        int mistakesOf(int row) {
            int wrong = 0;
            for (int column = 0; column < width; column++) {
                if (isMistake(column, row)) {
                    wrong++;
                }
            }
            return wrong;
        }

        int mistakesFrom(int first) {
            int wrong = 0;
            for (int row = first; row < finished; row++) {
                wrong += mistakesOf(row);
            }
            return wrong;
        }

        int seenMistakes() {
            int wrong = 0;
            for (int row = 0; row < finished; row++) {
                if (isSeen(row)) {
                    wrong += mistakesOf(row);
                }
            }
            return wrong;
        }

        int faultyRows() {
            int rows = 0;
            for (int row = 0; row < finished; row++) {
                if (mistakesOf(row) > 0) {
                    rows++;
                }
            }
            return rows;
        }

        int lowestFaultyRow(boolean isSeenOnly) {
            for (int row = 0; row < finished; row++) {
                if ((!isSeenOnly || isSeen(row)) && mistakesOf(row) > 0) {
                    return row;
                }
            }
            return NONE;
        }

        int rowsDownTo(int row) {
            return row == NONE ? 0 : finished - row;
        }

        /** The colour of a cell as it is, or as it would be, if its row was woven right. */
        private int colourWhenWoven(int column, int row) {
            int colour = cloth.get(column, row);
            return colour == NONE ? plan.get(column, row) : colour;
        }

        /** The joins that a row has, or would have, if it was woven right. */
        int joinsOf(int row) {
            int joins = 0;
            for (int column = 0; column < width - 1; column++) {
                if (colourWhenWoven(column, row) != colourWhenWoven(column + 1, row)) {
                    joins++;
                }
            }
            return joins;
        }

        private boolean isJoin(int column, int row) {
            return cloth.get(column, row) != cloth.get(column + 1, row);
        }

        int minutesFor(int joins) {
            return (int) (width * 0.25 + joins * 1.75);
        }

        int slitsOf(int least) {
            int slits = 0;
            for (int column = 0; column < width - 1; column++) {
                int run = 0;
                for (int row = 0; row < finished; row++) {
                    run = isJoin(column, row) ? run + 1 : 0;
                    // counted once, when it gets long enough
                    if (run == least) {
                        slits++;
                    }
                }
            }
            return slits;
        }

        int longestRun() {
            int longest = 0;
            for (int column = 0; column < width - 1; column++) {
                int run = 0;
                for (int row = 0; row < finished; row++) {
                    run = isJoin(column, row) ? run + 1 : 0;
                    longest = Math.max(longest, run);
                }
            }
            return longest;
        }
    }

    /** The looms ahead of the latest acts, in a ring: the oldest is lost for the newest. */
    private static final class History {
        private final Loom[] looms = new Loom[MOST_UNDONE];
        private int next;
        int size;

        History() {
            for (int i = 0; i < looms.length; i++) {
                looms[i] = new Loom();
            }
        }

        void clear() {
            size = 0;
        }

        void keep(Loom loom) {
            if (next < 0 || next >= looms.length) {
                next = 0;
            }
            looms[next].copyFrom(loom);
            next++;
            size = Math.min(MOST_UNDONE, size + 1);
        }

        /** To be called if the size is more than 0. */
        Loom takeLatest() {
            next--;
            if (next < 0 || next >= looms.length) {
                next = looms.length - 1;
            }
            size--;
            return looms[next];
        }
    }

    /** Goes through a text token by token, and keeps the first error. */
    private static final class Reader {
        static final int END = 0;
        static final int WORD = 1;
        static final int NUMBER = 2;
        private static final int TOO_LARGE = 100000;
        final Bytes text;
        /** What the present token is: one of the above, or a byte of its own. */
        int kind;
        int start;
        int behind;
        private int value;
        /** The number that was accepted last. */
        int number;
        int code;
        int position = NONE;

        Reader(Bytes text) {
            this.text = text;
        }

        void begin() {
            code = 0;
            position = NONE;
            behind = 0;
            step();
        }

        boolean fail(int newCode) {
            code = newCode;
            position = start;
            return false;
        }

        void step() {
            start = behind;
            while (start < text.size() && isBlank(text.byteAt(start))) {
                start++;
            }
            int sign = text.byteAt(start);
            behind = start;
            value = 0;
            if (sign == NONE) {
                kind = END;
            } else if (isLetter(sign)) {
                kind = WORD;
                while (behind < text.size() && isLetter(text.byteAt(behind))) {
                    behind++;
                }
            } else if (isDigit(sign)) {
                kind = NUMBER;
                while (behind < text.size() && isDigit(text.byteAt(behind))) {
                    value = Math.min(TOO_LARGE, 10 * value + text.byteAt(behind) - '0');
                    behind++;
                }
            } else {
                // the bytes 1 and 2 belong to no token, and are not to be taken for a kind
                kind = sign == ';' || sign == '{' || sign == '}' ? sign : NONE;
                behind++;
            }
        }

        private static boolean isBlank(int sign) {
            return sign == ' ' || sign == '\n';
        }

        boolean isWord(String word) {
            if (kind != WORD || behind - start != word.length()) {
                return false;
            }
            for (int i = 0; i < word.length(); i++) {
                if (text.byteAt(start + i) != word.charAt(i)) {
                    return false;
                }
            }
            return true;
        }

        boolean takeWord(String word) {
            if (!isWord(word)) {
                return fail(NO_SUCH_TOKEN);
            }
            step();
            return true;
        }

        boolean takeMark(int mark) {
            if (kind != mark) {
                return fail(NO_SUCH_TOKEN);
            }
            step();
            return true;
        }

        /** Whether the present token is such a number; it stays the present one. */
        boolean seesNumber(int least, int most) {
            if (kind != NUMBER) {
                return fail(NO_SUCH_TOKEN);
            }
            if (value < least || value > most) {
                return fail(OUT_OF_RANGE);
            }
            number = value;
            return true;
        }

        boolean takeNumber(int least, int most) {
            if (!seesNumber(least, most)) {
                return false;
            }
            step();
            return true;
        }
    }

    /** Reads a design. Its functions answer whether all was right. */
    private static final class DesignReader {
        private final Reader reader;
        private final Caption box = new Caption();
        /** A bit for each colour whose STOCK was told. */
        private int coloursTold;
        private boolean isDelayTold;

        DesignReader(Reader reader) {
            this.reader = reader;
        }

        boolean readInto(Loom loom) {
            coloursTold = 0;
            isDelayTold = false;
            reader.begin();
            if (!readSize(loom)) {
                return false;
            }
            for (int i = 0; i <= MOST_TEXT && reader.kind != Reader.END; i++) {
                if (!readStatement(loom) || !reader.takeMark(';')) {
                    return false;
                }
            }
            return true;
        }

        private boolean readSize(Loom loom) {
            if (!reader.takeWord("loom") || !reader.takeNumber(LEAST_WIDTH, MOST_WIDTH)) {
                return false;
            }
            int width = reader.number;
            if (!reader.takeNumber(LEAST_HEIGHT, MOST_HEIGHT)) {
                return false;
            }
            loom.reset(width, reader.number);
            return reader.takeMark(';');
        }

        private boolean readStatement(Loom loom) {
            if (reader.isWord("caption")) {
                return readCaption(loom);
            }
            if (reader.isWord("stock")) {
                return readStock(loom);
            }
            if (reader.isWord("delay")) {
                return readDelay(loom);
            }
            return reader.fail(NO_SUCH_TOKEN);
        }

        private boolean readCaption(Loom loom) {
            if (loom.captionCount >= MOST_CAPTIONS) {
                return reader.fail(ONE_TOO_MANY);
            }
            reader.step();
            if (!readCaptionWord() || !readCaptionPlace(loom)) {
                return false;
            }
            if (!reader.takeWord("in") || !reader.takeNumber(GROUND + 1, COLOURS - 1)) {
                return false;
            }
            box.colour = reader.number;
            loom.hang(box);
            return true;
        }

        private boolean readCaptionWord() {
            if (reader.kind != Reader.WORD) {
                return reader.fail(NO_SUCH_TOKEN);
            }
            if (reader.behind - reader.start > MOST_LETTERS) {
                return reader.fail(OUT_OF_RANGE);
            }
            box.takeWord(reader.text, reader.start, reader.behind);
            reader.step();
            box.side = FRONT;
            if (reader.isWord("rear")) {
                box.side = REAR;
                reader.step();
            }
            return true;
        }

        private boolean readCaptionPlace(Loom loom) {
            if (!reader.takeWord("at") || !reader.takeNumber(0, loom.width - 1)) {
                return false;
            }
            int x = reader.number;
            if (!reader.seesNumber(0, loom.height - 1)) {
                return false;
            }
            box.putAt(x, reader.number);
            if (!loom.holds(box)) {
                return reader.fail(OFF_THE_LOOM);
            }
            if (!loom.isFree(box, NONE)) {
                return reader.fail(ON_ANOTHER);
            }
            reader.step();
            return true;
        }

        private boolean readStock(Loom loom) {
            reader.step();
            if (!reader.seesNumber(0, COLOURS - 1)) {
                return false;
            }
            int colour = reader.number;
            if ((coloursTold & 1 << colour) != 0) {
                return reader.fail(SECOND_ONE);
            }
            coloursTold |= 1 << colour;
            reader.step();
            if (!reader.takeNumber(0, MOST_STOCK)) {
                return false;
            }
            put(loom.stocks, colour, reader.number);
            return true;
        }

        private boolean readDelay(Loom loom) {
            if (isDelayTold) {
                return reader.fail(SECOND_ONE);
            }
            isDelayTold = true;
            reader.step();
            if (!reader.takeNumber(0, MOST_DELAY)) {
                return false;
            }
            loom.delay = reader.number;
            return true;
        }
    }

    /** The commands of a script as steps, a closing brace being a step too, and a walk through them. */
    private static final class Script {
        static final int PASS = 0;
        static final int BEAT = 1;
        static final int WEAVE = 2;
        static final int UNPICK = 3;
        static final int LOOK = 4;
        private static final int REPEAT = 5;
        private static final int CLOSE = 6;
        private static final int ARGUMENTS = 3;
        private static final int MOST_STEPS = 2 * MOST_COMMANDS;
        private static final int WALK_LIMIT = 10000;
        private final Reader reader;
        private final int[] kinds = new int[MOST_STEPS];
        /** Three a step. Of a repeat: its times, and its closing step; of this: its repeat. */
        private final int[] arguments = new int[ARGUMENTS * MOST_STEPS];
        private final int[] timesLeft = new int[MOST_STEPS];
        private int steps;
        private int commands;
        private int acts;
        /** The repeats that are open while the script is read, and the acts ahead of each. */
        private final int[] openRepeats = new int[MOST_DEPTH];
        private final int[] actsAhead = new int[MOST_DEPTH];
        private int depth;
        private int present;

        Script(Reader reader) {
            this.reader = reader;
        }

        boolean compile(int width) {
            steps = 0;
            commands = 0;
            acts = 0;
            depth = 0;
            reader.begin();
            for (int i = 0; i <= MOST_TEXT; i++) {
                if (depth == 0 && reader.kind == Reader.END) {
                    return true;
                }
                boolean isRight = depth > 0 && reader.kind == '}'
                    ? readClose() : readCommand(width);
                if (!isRight) {
                    return false;
                }
            }
            return reader.fail(NO_SUCH_TOKEN);
        }

        private int commandKind() {
            if (reader.isWord("pass")) {
                return PASS;
            }
            if (reader.isWord("beat")) {
                return BEAT;
            }
            if (reader.isWord("weave")) {
                return WEAVE;
            }
            if (reader.isWord("unpick")) {
                return UNPICK;
            }
            if (reader.isWord("look")) {
                return LOOK;
            }
            return reader.isWord("repeat") ? REPEAT : NONE;
        }

        private boolean readCommand(int width) {
            int kind = commandKind();
            if (kind == NONE) {
                return reader.fail(NO_SUCH_TOKEN);
            }
            if (commands >= MOST_COMMANDS || kind == REPEAT && depth >= MOST_DEPTH) {
                return reader.fail(ONE_TOO_MANY);
            }
            commands++;
            reader.step();
            addStep(kind);
            if (kind == REPEAT) {
                return readRepeat();
            }
            acts++;
            return readArguments(kind, width) && reader.takeMark(';');
        }

        private void addStep(int kind) {
            put(kinds, steps, kind);
            steps++;
        }

        private boolean readArguments(int kind, int width) {
            switch (kind) {
                case PASS:
                    return readArgument(0, 0, COLOURS - 1) && readArgument(1, 0, width - 1)
                        && readArgument(2, reader.number, width - 1);
                case WEAVE:
                    return readArgument(0, 1, MOST_ROWS) && readBlind();
                case UNPICK:
                    return readArgument(0, 0, MOST_ROWS);
                default:
                    return true;
            }
        }

        private boolean readArgument(int which, int least, int most) {
            if (!reader.seesNumber(least, most)) {
                return false;
            }
            setArgument(steps - 1, which, reader.number);
            reader.step();
            return true;
        }

        private boolean readBlind() {
            boolean isBlind = reader.isWord("blind");
            setArgument(steps - 1, 1, isBlind ? 1 : 0);
            if (isBlind) {
                reader.step();
            }
            return true;
        }

        private boolean readRepeat() {
            if (!readArgument(0, 1, MOST_TIMES)) {
                return false;
            }
            put(openRepeats, depth, steps - 1);
            put(actsAhead, depth, acts);
            depth++;
            return reader.takeMark('{');
        }

        private boolean readClose() {
            depth--;
            int repeat = at(openRepeats, depth);
            setArgument(repeat, 1, steps);
            if (acts == at(actsAhead, depth)) {
                // a repeat without acts has nothing to do, and the walk need not go round in it
                setArgument(repeat, 0, 0);
            }
            addStep(CLOSE);
            setArgument(steps - 1, 0, repeat);
            reader.step();
            return reader.takeMark(';');
        }

        private void setArgument(int step, int which, int value) {
            put(arguments, ARGUMENTS * step + which, value);
        }

        private int argumentOf(int step, int which) {
            return at(arguments, ARGUMENTS * step + which);
        }

        void rewind() {
            present = NONE;
        }

        /** Goes on to the next act, through the repeats; answers whether there is one. */
        boolean advance() {
            for (int i = 0; i < WALK_LIMIT; i++) {
                present++;
                if (present >= steps) {
                    return false;
                }
                if (kind() == REPEAT) {
                    enterRepeat();
                } else if (kind() == CLOSE) {
                    goRound();
                } else {
                    return true;
                }
            }
            return false;
        }

        private void enterRepeat() {
            int times = argument(0);
            put(timesLeft, present, times);
            if (times == 0) {
                present = argument(1);
            }
        }

        private void goRound() {
            int repeat = argument(0);
            int left = at(timesLeft, repeat) - 1;
            put(timesLeft, repeat, left);
            if (left > 0) {
                present = repeat;
            }
        }

        int kind() {
            return at(kinds, present);
        }

        int argument(int which) {
            return argumentOf(present, which);
        }
    }
}
