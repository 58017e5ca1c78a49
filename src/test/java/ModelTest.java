import java.util.ArrayList;
import java.util.List;
import java.util.Random;

/** Long runs of calls, drawn from fixed seeds, on the class and on ModelLoom: each answer has to be the same. */
public final class ModelTest {
    private static final int RUNS = 3000;
    private static final String SIGNS = "aeghimnoswxyz";
    private static final int[] EXTREMES = {Integer.MIN_VALUE, Integer.MAX_VALUE, -1, 1 << 30, -2};

    private final Random random;
    private final CaptionLoom loom = new CaptionLoom();
    private final ModelLoom model = new ModelLoom();
    private final List<String> told = new ArrayList<>();
    private int calls;
    private boolean isWrong;

    private ModelTest(long seed) {
        random = new Random(seed);
    }

    public static void main(String[] args) {
        int wrong = 0;
        for (int seed = 0; seed < RUNS && wrong < 3; seed++) {
            ModelTest test = new ModelTest(seed);
            test.run();
            if (test.isWrong) {
                wrong++;
                System.out.println("seed " + seed + ":");
                int size = test.told.size();
                test.told.subList(Math.max(0, size - 40), size).forEach(System.out::println);
            }
        }
        System.out.println(wrong == 0 ? RUNS + " runs as the model's" : "runs unlike the model's");
        if (wrong != 0) {
            System.exit(1);
        }
    }

    private interface Call<T> {
        Object on(T object);
    }

    private static <T> String answer(Call<T> call, T object) {
        try {
            return String.valueOf(call.on(object));
        } catch (RuntimeException e) {
            return e.getClass().getName();
        }
    }

    private void same(String name, Call<CaptionLoom> call, Call<ModelLoom> due) {
        if (isWrong || calls >= 512) {
            return;
        }
        calls++;
        String got = answer(call, loom);
        String want = answer(due, model);
        told.add(name + " = " + got);
        if (!got.equals(want)) {
            told.add("    due is " + want);
            isWrong = true;
        }
    }

    private int below(int n) {
        return n <= 0 ? 0 : random.nextInt(n);
    }

    private boolean oneIn(int n) {
        return random.nextInt(n) == 0;
    }

    /** A number from least to most, now and then one beside or far off. */
    private int about(int least, int most) {
        if (oneIn(40)) {
            return EXTREMES[below(EXTREMES.length)];
        }
        return oneIn(12) ? least - 1 + below(most - least + 3) : least + below(most - least + 1);
    }

    private void run() {
        if (!oneIn(6)) {
            say(designText());
            same("load", x -> x.load(), x -> x.load());
            errors();
        }
        while (calls < 512 && !isWrong) {
            change();
            for (int i = below(8); i > 0; i--) {
                ask();
            }
        }
    }

    private void errors() {
        same("errorCode", x -> x.errorCode(), x -> x.code);
        same("errorPosition", x -> x.errorPosition(), x -> x.position);
    }

    // ---- texts

    private void say(String text) {
        told.add("text: " + text.replace("\n", "\\n"));
        int length = Math.min(400, text.length());
        StringBuilder padded = new StringBuilder(text);
        padded.setLength(length);
        while (padded.length() % 20 != 0) {
            padded.append(' ');
        }
        for (int i = 0; i < padded.length(); i += 20) {
            int[] parts = new int[5];
            for (int j = 0; j < 20; j++) {
                parts[j / 4] = parts[j / 4] << 8 | padded.charAt(i + j);
            }
            same("append", x -> x.append(parts[0], parts[1], parts[2], parts[3], parts[4]),
                x -> x.append(parts));
        }
        if (oneIn(2) || padded.length() > length && length < 10) {
            same("truncate(" + length + ")", x -> x.truncate(length), x -> x.truncate(length));
        }
    }

    private String space() {
        return oneIn(15) ? "\n " : oneIn(15) ? "  " : " ";
    }

    private String word() {
        StringBuilder word = new StringBuilder();
        int letters = oneIn(4) ? 1 + below(8) : 1 + below(3);
        letters = oneIn(40) ? 9 + below(3) : letters;
        for (int i = 0; i < letters; i++) {
            word.append(oneIn(3) ? (char) ('a' + below(26)) : SIGNS.charAt(below(SIGNS.length())));
        }
        return oneIn(40) ? "rear" : oneIn(60) ? "at" : word.toString();
    }

    private String number(int least, int most) {
        int n = oneIn(60) ? most + 1 : oneIn(60) ? Math.max(0, least - 1) : least + below(most - least + 1);
        return oneIn(100) ? "99999999999999999999" : oneIn(30) ? "000" + n : "" + n;
    }

    private String designText() {
        ModelLoom.State d = new ModelLoom.State();
        d.width = oneIn(4) ? 40 : 8 + below(33);
        d.height = oneIn(4) ? 30 : 6 + below(25);
        StringBuilder s = new StringBuilder("loom ");
        s.append(oneIn(60) ? number(8, 40) : "" + d.width).append(space());
        s.append(oneIn(60) ? number(6, 30) : "" + d.height).append(";").append(space());
        boolean isDelayed = false;
        int stocked = 0;
        for (int i = below(14); i > 0; i--) {
            int kind = below(10);
            if (kind == 0 && (!isDelayed || oneIn(8))) {
                s.append("delay").append(space()).append(number(0, 30));
                isDelayed = true;
            } else if (kind == 1) {
                int colour = oneIn(8) ? below(7) : stocked++;
                s.append("stock ").append(colour % 8).append(space()).append(number(0, oneIn(2) ? 9999 : 60));
            } else {
                s.append(captionText(d));
            }
            s.append(oneIn(3) ? " ;" : ";").append(oneIn(3) ? "" : space());
        }
        return spoiled(s.toString());
    }

    private String captionText(ModelLoom.State d) {
        for (int i = 0; i < 30; i++) {
            String word = word();
            int side = below(2);
            int x = below(d.width);
            int y = below(d.height);
            if (!oneIn(60) && (word.length() > 8 || !d.lies(word.length(), x, y)
                || d.clashes(new ModelLoom.Caption(word, side, x, y, 1), -1))) {
                continue;
            }
            if (word.length() <= 8 && d.lies(word.length(), x, y)) {
                d.captions.add(new ModelLoom.Caption(word, side, x, y, 1));
            }
            return "caption" + space() + word + (side == 1 ? " rear" : "") + " at" + space() + x + space() + y
                + space() + "in" + space() + number(1, 6);
        }
        return "delay 3";
    }

    private String spoiled(String text) {
        if (!oneIn(8) || text.isEmpty()) {
            return text;
        }
        StringBuilder s = new StringBuilder(text);
        int at = below(s.length());
        switch (below(5)) {
            case 0 -> s.setLength(at);
            case 1 -> s.deleteCharAt(at);
            case 2 -> s.setCharAt(at, (char) below(256));
            case 3 -> s.insert(at, ";{}rear 1,".charAt(below(10)));
            default -> s.insert(at, "\u0001\u0002\u0000\u00ff\tA".charAt(below(6)));
        }
        return s.toString();
    }

    private String scriptText() {
        int most = oneIn(5) ? 40 : 1 + below(10);
        return spoiled(script(oneIn(3) ? 0 : 1, most));
    }

    private String script(int depth, int most) {
        StringBuilder s = new StringBuilder();
        int width = model.s.width;
        for (int i = 0; i < most; i++) {
            int kind = below(14);
            if (kind < 4) {
                int from = below(width);
                s.append("pass ").append(number(0, 6)).append(space()).append(number(from, from));
                s.append(space()).append(number(from, width - 1));
            } else if (kind < 6) {
                s.append("weave ").append(number(1, oneIn(3) ? 30 : 2)).append(oneIn(3) ? " blind" : "");
            } else if (kind < 8) {
                s.append("beat");
            } else if (kind < 10) {
                s.append("unpick").append(space()).append(number(0, oneIn(4) ? 30 : 1));
            } else if (kind < 11) {
                s.append("look");
            } else if (depth < 3 && kind < 13 || depth < 4 && oneIn(8)) {
                s.append("repeat ").append(number(1, 20)).append("{");
                s.append(script(depth + 1, below(4))).append("}");
            } else {
                s.append("look");
            }
            s.append(";").append(oneIn(3) ? "" : space());
        }
        return s.toString();
    }

    // ---- calls that change something

    private void change() {
        switch (below(30)) {
            case 0 -> {
                if (oneIn(4)) {
                    say(designText());
                    same("load", x -> x.load(), x -> x.load());
                    errors();
                }
            }
            case 1, 2 -> {
                say(scriptText());
                same("play", x -> x.play(), x -> x.play());
                errors();
            }
            case 3, 4, 5, 6 -> pass();
            case 7, 8 -> same("beat", x -> x.beat(), x -> x.beat());
            case 9, 10, 11, 12 -> {
                int rows = oneIn(4) ? about(1, 30) : about(1, 4);
                boolean isBlind = oneIn(3);
                same("weave(" + rows + ", " + isBlind + ")", x -> x.weave(rows, isBlind),
                    x -> x.weave(rows, isBlind));
            }
            case 13, 14 -> {
                int rows = oneIn(8) ? about(0, 30) : about(0, 2);
                same("unpick(" + rows + ")", x -> x.unpick(rows), x -> x.unpick(rows));
            }
            case 15 -> same("look", x -> x.look(), x -> x.look());
            case 16, 17, 18 -> add();
            case 19 -> {
                if (oneIn(3)) {
                    int caption = about(0, model.s.captions.size() - 1);
                    same("drop(" + caption + ")", x -> x.drop(caption), x -> x.drop(caption));
                }
            }
            case 20, 21 -> move();
            case 22 -> stockAndDelay();
            case 23, 24 -> same("undo", x -> x.undo(), x -> x.undo());
            case 25 -> slots();
            default -> outputs();
        }
    }

    private void pass() {
        int width = model.s.width;
        int colour = about(0, 6);
        int from = about(0, width - 1);
        int to = oneIn(20) ? about(0, width - 1) : about(from, Math.max(from, width - 1));
        same("pass(" + colour + ", " + from + ", " + to + ")", x -> x.pass(colour, from, to),
            x -> x.pass(colour, from, to));
    }

    private void add() {
        String word = word();
        if (oneIn(30)) {
            word = oneIn(2) ? "" : "a b";
        }
        int length = word.length();
        if (model.text.length() + 20 <= 400 && !oneIn(30)) {
            same("truncate(0)", x -> x.truncate(0), x -> x.truncate(0));
            say(word);
            if (!oneIn(30) && model.text.length() >= length) {
                same("truncate(" + length + ")", x -> x.truncate(length), x -> x.truncate(length));
            }
        }
        int side = about(0, 1);
        int place = oneIn(2) ? answerPlace(length, side & 1) : -1;
        int x1 = place >= 0 ? place % 100 : about(0, model.s.width - 1);
        int y1 = place >= 0 ? place / 100 : about(0, model.s.height - 5);
        int colour = about(1, 6);
        same("add(" + side + ", " + x1 + ", " + y1 + ", " + colour + ")", x -> x.add(side, x1, y1, colour),
            x -> x.add(side, x1, y1, colour));
    }

    private int answerPlace(int letters, int side) {
        return letters < 1 || letters > 8 ? -1 : model.place(letters, side);
    }

    private void move() {
        int caption = about(0, model.s.captions.size() - 1);
        boolean isThere = caption >= 0 && caption < model.s.captions.size();
        boolean isNear = isThere && !oneIn(3);
        int x1 = isNear ? model.s.captions.get(caption).x() - 2 + below(5) : about(0, model.s.width - 1);
        int y1 = isNear ? model.s.captions.get(caption).y() - 1 + below(3) : about(0, model.s.height - 5);
        same("move(" + caption + ", " + x1 + ", " + y1 + ")", x -> x.move(caption, x1, y1),
            x -> x.move(caption, x1, y1));
    }

    private void stockAndDelay() {
        int colour = about(0, 6);
        int stock = oneIn(2) ? about(0, 60) : about(0, 9999);
        same("setStock(" + colour + ", " + stock + ")", x -> x.setStock(colour, stock),
            x -> x.setStock(colour, stock));
        int delay = oneIn(3) ? about(0, 30) : about(0, 5);
        same("setDelay(" + delay + ")", x -> x.setDelay(delay), x -> x.setDelay(delay));
    }

    private void slots() {
        int slot = about(0, 1);
        if (oneIn(2)) {
            same("save(" + slot + ")", x -> nothing(y -> y.save(slot), x), x -> nothing(y -> y.save(slot), x));
        } else {
            same("restore(" + slot + ")", x -> nothing(y -> y.restore(slot), x),
                x -> nothing(y -> y.restore(slot), x));
        }
    }

    private interface Act<T> {
        void on(T object);
    }

    private static <T> String nothing(Act<T> act, T object) {
        act.on(object);
        return "nothing";
    }

    private void outputs() {
        if (oneIn(3)) {
            int caption = about(0, model.s.captions.size() - 1);
            same("writeCaption(" + caption + ")", x -> x.writeCaption(caption), x -> x.writeCaption(caption));
        } else {
            int row = oneIn(2) ? about(0, model.s.finished) : about(0, model.s.height - 1);
            boolean isRear = oneIn(2);
            same("writeRow(" + row + ", " + isRear + ")", x -> x.writeRow(row, isRear),
                x -> x.writeRow(row, isRear));
        }
        boolean isWhole = oneIn(4);
        int asked = isWhole ? model.output.length() : below(8);
        for (int i = 0; i < asked; i++) {
            int index = isWhole ? i : about(0, model.output.length() - 1);
            same("output(" + index + ")", x -> x.output(index), x -> x.output(index));
        }
    }

    // ---- calls that only ask

    private void ask() {
        switch (below(7)) {
            case 0, 1 -> askNumbers();
            case 2, 3 -> askCaptions();
            case 4 -> askCells();
            case 5 -> askCloth();
            default -> askWould();
        }
    }

    private void askNumbers() {
        int what = about(0, 8);
        same("count(" + what + ")", x -> x.count(what), x -> x.count(what));
        same("account(" + what + ")", x -> x.account(what), x -> x.account(what));
        same("mistakes(" + what + ")", x -> x.mistakes(what), x -> x.mistakes(what));
        int colour = about(0, 6);
        int which = about(0, 4);
        same("colour(" + colour + ", " + which + ")", x -> x.colour(colour, which), x -> x.colour(colour, which));
    }

    private void askCaptions() {
        int caption = about(0, model.s.captions.size() - 1);
        int what = about(0, 9);
        same("caption(" + caption + ", " + what + ")", x -> x.caption(caption, what),
            x -> x.caption(caption, what));
        int letter = about(0, 3);
        int which = about(0, 3);
        same("letter(" + caption + ", " + letter + ", " + which + ")", x -> x.letter(caption, letter, which),
            x -> x.letter(caption, letter, which));
        same("isAlike(" + caption + ")", x -> x.isAlike(caption), x -> x.isAlike(caption));
    }

    private void askCells() {
        int column = about(0, model.s.width - 1);
        int row = oneIn(2) ? about(0, model.s.finished) : about(0, model.s.height - 1);
        same("cell(" + column + ", " + row + ")", x -> x.cell(column, row), x -> x.cell(column, row));
        same("design(" + column + ", " + row + ")", x -> x.design(column, row), x -> x.design(column, row));
        same("joins(" + row + ")", x -> x.joins(row), x -> x.joins(row));
        same("wouldErr(" + row + ")", x -> x.wouldErr(row), x -> x.wouldErr(row));
    }

    private void askCloth() {
        int length = oneIn(2) ? about(2, 6) : about(2, 30);
        same("slits(" + length + ")", x -> x.slits(length), x -> x.slits(length));
        same("longestSlit", x -> x.longestSlit(), x -> x.longestSlit());
        same("fits", x -> x.fits(), x -> x.fits());
        int colour = about(0, 6);
        same("share(" + colour + ")", x -> x.share(colour), x -> x.share(colour));
        same("meanJoins", x -> x.meanJoins(), x -> x.meanJoins());
    }

    private void askWould() {
        same("lasts", x -> x.lasts(), x -> x.lasts());
        int rows = about(0, 30);
        same("minutes(" + rows + ")", x -> x.minutes(rows), x -> x.minutes(rows));
        int letters = oneIn(3) ? about(1, 8) : about(1, 3);
        int side = about(0, 1);
        same("place(" + letters + ", " + side + ")", x -> x.place(letters, side), x -> x.place(letters, side));
    }
}
