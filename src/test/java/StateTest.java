/** Promises 8 to 20: what there is. */
public final class StateTest {
    private static final String LETTER_I = "loom 12 8;caption i at 0 0 in 1;";

    public static void main(String[] args) {
        count();
        captionNumbers();
        captionReading();
        captionGhosts();
        captionMistakes();
        letter();
        everyLetter();
        cell();
        design();
        colour();
        mistakes();
        mistakesSeen();
        fits();
        isAlike();
        joins();
        slits();
        account();
        Checks.end();
    }

    private static void count() {
        CaptionLoom x = Checks.loaded("loom 21 9;caption abc rear at 1 3 in 2;caption de at 0 0 in 3;delay 2;");
        Checks.due("pass", 498, x.pass(1, 3, 4));
        Checks.due("pass", 497, x.pass(1, 4, 4));
        int[] counts = {21, 9, 0, 2, 2, 2, 0, 5, 2};
        for (int what = 0; what < counts.length; what++) {
            Checks.due("count(" + what + ")", counts[what], x.count(what));
        }
        x.weave(4, false);
        x.look();
        x.weave(4, false);
        Checks.due("finished rows", 8, x.count(2));
        Checks.due("cells of an empty open row", 0, x.count(3));
        Checks.due("LOOKED", 4, x.count(6));
        x.beat();
        Checks.due("finished rows", 9, x.count(2));
        Checks.due("cells without an open row", 0, x.count(3));
        for (int i = 0; i < 5; i++) {
            x.look();
        }
        Checks.due("acts that can be undone", 8, x.count(8));
        Checks.dueArgument("count(9)", () -> x.count(9));
        Checks.dueArgument("count(-1)", () -> x.count(-1));
    }

    private static void captionNumbers() {
        CaptionLoom x = Checks.loaded("loom 20 12;caption abc rear at 4 2 in 6;caption z at 17 7 in 1;");
        int[] first = {3, 1, 4, 2, 6, 0, 0, 0, 0, 0};
        int[] second = {1, 0, 17, 7, 1, 0, 0, 0, 0, 0};
        for (int what = 0; what <= 9; what++) {
            Checks.due("caption(0, " + what + ")", first[what], x.caption(0, what));
            Checks.due("caption(1, " + what + ")", second[what], x.caption(1, what));
        }
        int[] rows = {0, 0, 0, 1, 2, 3, 4, 5, 5};
        for (int finished = 0; finished < rows.length; finished++) {
            Checks.due("rows of the caption, of " + finished, rows[finished], x.caption(0, 5));
            x.beat();
        }
        Checks.dueIndex("caption(2, 0)", () -> x.caption(2, 0));
        Checks.dueIndex("caption(-1, 0)", () -> x.caption(-1, 0));
        Checks.dueIndex("caption(2, 10)", () -> x.caption(2, 10));
        Checks.dueArgument("caption(0, 10)", () -> x.caption(0, 10));
        Checks.dueArgument("caption(1, -1)", () -> x.caption(1, -1));
    }

    private static void captionReading() {
        CaptionLoom x = Checks.loaded("loom 16 12;caption boy at 0 0 in 1;caption boy rear at 2 6 in 2;");
        x.weave(4, false);
        Checks.due("read ahead of its end", 0, x.caption(0, 6));
        Checks.due("turned ahead of its end", 0, x.caption(0, 7));
        x.weave(8, false);
        for (int caption = 0; caption < 2; caption++) {
            Checks.due("letters read", 3, x.caption(caption, 6));
            // o is its own mirror image; b is d's; y is its own
            Checks.due("letters read turned", 2, x.caption(caption, 7));
        }
        CaptionLoom y = Checks.loaded("loom 11 6;caption bid at 0 0 in 1;");
        y.weave(6, true);
        Checks.due("woven blind, the same way in the middle: read", 3, y.caption(0, 6));
        Checks.due("woven blind, the same way in the middle: turned", 1, y.caption(0, 7));
        CaptionLoom z = Checks.loaded("loom 11 6;caption bib at 0 0 in 1;");
        z.weave(6, true);
        Checks.due("bib from the rear: read", 1, z.caption(0, 6));
        Checks.due("bib from the rear: turned", 3, z.caption(0, 7));
    }

    private static void captionGhosts() {
        CaptionLoom x = Checks.loaded("loom 16 12;caption boy at 0 0 in 1;caption boy rear at 2 6 in 2;");
        x.weave(4, true);
        Checks.due("ghosts ahead of the end", 0, x.caption(0, 8));
        x.weave(1, true);
        Checks.due("ghosts in what is woven blind", 3, x.caption(0, 8));
        Checks.due("ghosts ahead of the end", 0, x.caption(1, 8));
        x.weave(7, true);
        Checks.due("ghosts of the rear", 3, x.caption(1, 8));
        x.unpick(6);
        x.weave(6, false);
        Checks.due("ghosts in what is woven right", 0, x.caption(1, 8));
        Checks.due("ghosts elsewhere", 3, x.caption(0, 8));
    }

    private static void captionMistakes() {
        CaptionLoom x = Checks.loaded("loom 9 6;caption ii at 0 0 in 1;");
        x.pass(2, 8 - 3, 8 - 3);
        x.pass(2, 8 - 7, 8 - 7);
        x.pass(3, 8 - 6, 8 - 6);
        Checks.due("mistakes of the open row", 0, x.caption(0, 9));
        Checks.due("mistakes", 3, x.weave(1, false));
        Checks.due("mistakes in the box, one between the letters", 2, x.caption(0, 9));
        x.weave(4, false);
        x.pass(2, 4, 4);
        x.beat();
        Checks.due("mistakes above the box do not count", 2, x.caption(0, 9));
        Checks.due("all mistakes", 4, x.mistakes(0));
        CaptionLoom y = Checks.loaded("loom 9 6;caption ii rear at 0 1 in 1;");
        y.pass(2, 0, 8);
        y.beat();
        y.pass(2, 0, 8);
        y.beat();
        Checks.due("mistakes in the box of the rear", 7, y.caption(0, 9));
    }

    private static void letter() {
        CaptionLoom x = Checks.loaded("loom 12 8;caption pz rear at 1 1 in 4;");
        Checks.due("first letter", 16, x.letter(0, 0, 0));
        Checks.due("second letter", 26, x.letter(0, 1, 0));
        x.weave(5, false);
        for (int what = 1; what <= 3; what++) {
            Checks.due("ahead of its end", -1, x.letter(0, 0, what));
        }
        x.weave(1, false);
        Checks.due("read", 16, x.letter(0, 0, 1));
        Checks.due("read turned", 17, x.letter(0, 0, 2));
        Checks.due("picture", 31716, x.letter(0, 0, 3));
        Checks.due("z is read", 26, x.letter(0, 1, 1));
        Checks.due("z is nothing turned", 0, x.letter(0, 1, 2));
        Checks.due("picture of z", 29351, x.letter(0, 1, 3));
        x.move(0, 1, 0);
        Checks.due("moved it is nothing", 0, x.letter(0, 0, 1));
        Checks.due("picture moved", 31716 << 3 & 32767, x.letter(0, 0, 3));
        Checks.dueIndex("letter(0, 2, 0)", () -> x.letter(0, 2, 0));
        Checks.dueIndex("letter(0, -1, 0)", () -> x.letter(0, -1, 0));
        Checks.dueIndex("letter(1, 0, 0)", () -> x.letter(1, 0, 0));
        Checks.dueIndex("letter(-1, 0, 9)", () -> x.letter(-1, 0, 9));
        Checks.dueIndex("letter(0, 2, 9)", () -> x.letter(0, 2, 9));
        Checks.dueArgument("letter(0, 0, 4)", () -> x.letter(0, 0, 4));
        Checks.dueArgument("letter(0, 0, -1)", () -> x.letter(0, 0, -1));
    }

    private static void everyLetter() {
        int[] glyphs = {11245, 18927, 31015, 5103, 31143, 31140, 31087, 23533, 29847, 4687, 23469, 18727, 24557,
            27501, 31599, 31716, 31689, 27565, 31183, 29842, 23407, 23402, 23549, 23213, 23186, 29351};
        for (int i = 0; i < 26; i++) {
            for (String side : new String[] {"", " rear"}) {
                CaptionLoom x = Checks.loaded("loom 8 6;caption " + (char) ('a' + i) + side + " at 2 0 in 6;");
                x.weave(5, false);
                Checks.due("letter " + i, i + 1, x.letter(0, 0, 1));
                Checks.due("picture " + i, glyphs[i], x.letter(0, 0, 3));
            }
        }
    }

    private static void cell() {
        CaptionLoom x = Checks.loaded(LETTER_I);
        x.weave(1, false);
        x.pass(5, 0, 0);
        Checks.due("finished cell", 1, x.cell(0, 0));
        Checks.due("finished ground", 0, x.cell(3, 0));
        Checks.due("open cell", 5, x.cell(11, 1));
        Checks.due("open empty cell", -1, x.cell(10, 1));
        Checks.due("cell above", -1, x.cell(11, 7));
        Checks.dueIndex("cell(12, 0)", () -> x.cell(12, 0));
        Checks.dueIndex("cell(-1, 0)", () -> x.cell(-1, 0));
        Checks.dueIndex("cell(0, 8)", () -> x.cell(0, 8));
        Checks.dueIndex("cell(0, -1)", () -> x.cell(0, -1));
        Checks.dueIndex("cell(0, MIN)", () -> x.cell(0, Integer.MIN_VALUE));
    }

    private static void design() {
        CaptionLoom x = Checks.loaded("loom 12 8;caption j rear at 1 2 in 3;caption j at 0 3 in 4;");
        // j: 001 001 001 001 111
        int[][] cells = {{10, 2, 3}, {9, 2, 3}, {8, 2, 3}, {7, 2, 0}, {8, 3, 3}, {9, 3, 0}, {8, 6, 3}, {8, 7, 0},
            {10, 6, 0}, {0, 3, 4}, {1, 3, 4}, {2, 3, 4}, {0, 4, 0}, {2, 7, 4}, {2, 2, 0}, {3, 3, 0}};
        for (int[] c : cells) {
            Checks.due("design(" + c[0] + ", " + c[1] + ")", c[2], x.design(c[0], c[1]));
        }
        x.drop(0);
        Checks.due("design of what was dropped", 0, x.design(8, 3));
        Checks.due("design of what stays", 4, x.design(2, 7));
        x.move(0, 9, 0);
        Checks.due("design where it was", 0, x.design(2, 7));
        Checks.due("design of what was moved", 4, x.design(11, 4));
        x.undo();
        x.undo();
        Checks.due("design after undo", 3, x.design(8, 3));
        Checks.dueIndex("design(12, 0)", () -> x.design(12, 0));
        Checks.dueIndex("design(-1, 0)", () -> x.design(-1, 0));
        Checks.dueIndex("design(0, 8)", () -> x.design(0, 8));
        Checks.dueIndex("design(0, -1)", () -> x.design(0, -1));
    }

    private static void colour() {
        CaptionLoom x = Checks.loaded(LETTER_I);
        x.weave(1, false);
        x.pass(1, 10, 11);
        int[] first = {495, 3, 9, 5, 2};
        int[] ground = {491, 9, 87, 77, 4};
        for (int what = 0; what <= 4; what++) {
            Checks.due("colour(1, " + what + ")", first[what], x.colour(1, what));
            Checks.due("colour(0, " + what + ")", ground[what], x.colour(0, what));
        }
        x.setStock(1, 9999);
        Checks.due("what would come back, whatever the STOCK", 2, x.colour(1, 4));
        Checks.due("colour(6, 1)", 0, x.colour(6, 1));
        Checks.dueIndex("colour(7, 0)", () -> x.colour(7, 0));
        Checks.dueIndex("colour(-1, 9)", () -> x.colour(-1, 9));
        Checks.dueArgument("colour(6, 5)", () -> x.colour(6, 5));
        Checks.dueArgument("colour(0, -1)", () -> x.colour(0, -1));
    }

    private static CaptionLoom faulty() {
        CaptionLoom x = Checks.loaded("loom 8 10;");
        x.beat();
        x.pass(1, 0, 0);
        x.beat();
        x.beat();
        x.pass(1, 0, 1);
        x.beat();
        return x;
    }

    private static void dueMistakes(CaptionLoom x, int... due) {
        for (int what = 0; what <= 5; what++) {
            Checks.due("mistakes(" + what + ") with " + x.count(2) + " rows", due[what], x.mistakes(what));
        }
    }

    private static void mistakes() {
        CaptionLoom x = faulty();
        dueMistakes(x, 3, 0, 2, -1, 3, 0);
        x.beat();
        dueMistakes(x, 3, 0, 2, -1, 4, 0);
        x.beat();
        dueMistakes(x, 3, 1, 2, 1, 5, 5);
        x.setDelay(3);
        dueMistakes(x, 3, 1, 2, 1, 5, 5);
        x.setDelay(2);
        dueMistakes(x, 3, 3, 2, 1, 5, 5);
        x.setDelay(30);
        dueMistakes(x, 3, 0, 2, -1, 5, 0);
        x.unpick(5);
        dueMistakes(x, 0, 0, 0, -1, 0, 0);
        Checks.dueArgument("mistakes(6)", () -> x.mistakes(6));
        Checks.dueArgument("mistakes(-1)", () -> x.mistakes(-1));
        CaptionLoom y = new CaptionLoom();
        y.weave(8, false);
        Checks.added(y, "i", 0, 0, 2, 1);
        dueMistakes(y, 9, 4, 5, 2, 6, 6);
        y.setDelay(0);
        dueMistakes(y, 9, 9, 5, 2, 6, 6);
    }

    private static void mistakesSeen() {
        CaptionLoom x = faulty();
        Checks.due("look", 3, x.look());
        dueMistakes(x, 3, 3, 2, 1, 3, 3);
        x.unpick(1);
        Checks.due("LOOKED", 3, x.count(6));
        dueMistakes(x, 1, 1, 1, 1, 2, 2);
        x.pass(1, 0, 0);
        x.beat();
        dueMistakes(x, 2, 1, 2, 1, 3, 3);
        x.beat();
        Checks.due("LOOKED stays", 3, x.count(6));
    }

    private static void fits() {
        CaptionLoom x = new CaptionLoom();
        Checks.due("fits of an empty loom", false, x.fits());
        x.weave(7, false);
        Checks.due("fits of 7 rows", false, x.fits());
        x.pass(3, 0, 11);
        x.beat();
        Checks.due("fits of 8 rows, with mistakes", true, x.fits());
        CaptionLoom y = Checks.loaded("loom 12 8;caption ab rear at 0 0 in 1;caption c at 0 3 in 2;");
        y.weave(7, false);
        y.pass(1, 11, 11);
        y.beat();
        Checks.due("fits with a missing cell of c", false, y.fits());
        y.unpick(1);
        y.weave(1, false);
        Checks.due("fits", true, y.fits());
        y.move(1, 1, 3);
        Checks.due("fits after a move", false, y.fits());
        y.drop(1);
        Checks.due("fits with what is left", true, y.fits());
    }

    private static void isAlike() {
        String[] alike = {"a", "bd", "db", "bod", "pq", "oo", "atmta"};
        String[] other = {"b", "bb", "bob", "ab", "io", "pz", "aab"};
        for (String word : alike) {
            dueAlike(word, true);
        }
        for (String word : other) {
            dueAlike(word, false);
        }
        CaptionLoom x = new CaptionLoom();
        Checks.dueIndex("isAlike(0)", () -> x.isAlike(0));
        Checks.dueIndex("isAlike(-1)", () -> x.isAlike(-1));
    }

    private static void dueAlike(String word, boolean due) {
        for (int side = 0; side < 2; side++) {
            CaptionLoom x = Checks.loaded("loom 40 30;");
            Checks.added(x, word, side, 3, 3, 2);
            Checks.due("isAlike of " + word, due, x.isAlike(0));
        }
    }

    private static void joins() {
        CaptionLoom x = new CaptionLoom();
        x.pass(1, 0, 0);
        x.pass(2, 1, 1);
        x.pass(1, 5, 6);
        Checks.due("joins of the open row", -1, x.joins(0));
        x.beat();
        Checks.due("joins", 4, x.joins(0));
        for (int warp = 0; warp < 12; warp++) {
            x.pass(warp % 2, warp, warp);
        }
        x.beat();
        Checks.due("joins", 11, x.joins(1));
        Checks.due("joins of a row above", -1, x.joins(7));
        Checks.dueIndex("joins(8)", () -> x.joins(8));
        Checks.dueIndex("joins(-1)", () -> x.joins(-1));
    }

    private static void slits() {
        CaptionLoom x = Checks.loaded("loom 8 10;");
        x.pass(1, 0, 0);
        x.beat();
        Checks.due("one row is no slit", 0, x.slits(2));
        Checks.due("one row is no slit", 0, x.longestSlit());
        x.pass(2, 0, 0);
        x.pass(1, 7, 7);
        x.beat();
        Checks.due("two rows, of other colours", 1, x.slits(2));
        Checks.due("longest", 2, x.longestSlit());
        x.beat();
        for (int row = 0; row < 3; row++) {
            x.pass(1, 0, 0);
            x.pass(3, 4, 7);
            x.beat();
        }
        int[] due = {3, 2, 0};
        for (int length = 2; length <= 4; length++) {
            Checks.due("slits(" + length + ")", due[length - 2], x.slits(length));
        }
        Checks.due("longest", 3, x.longestSlit());
        x.pass(1, 0, 0);
        Checks.due("the open row has no slit", 0, x.slits(4));
        x.beat();
        Checks.due("longest", 4, x.longestSlit());
        Checks.due("slits(4)", 1, x.slits(4));
        Checks.due("slits(30)", 0, x.slits(30));
        Checks.dueArgument("slits(1)", () -> x.slits(1));
        Checks.dueArgument("slits(31)", () -> x.slits(31));
        CaptionLoom y = Checks.loaded("loom 40 30;");
        for (int row = 0; row < 30; row++) {
            y.setStock(1, 9999);
            y.pass(1, 39, 39);
            y.pass(1, 0, 0);
            y.setStock(0, 9999);
            y.beat();
        }
        Checks.due("slits of 30 rows", 2, y.slits(30));
        Checks.due("longest of 30 rows", 30, y.longestSlit());
    }

    private static void account() {
        CaptionLoom x = new CaptionLoom();
        x.look();
        x.pass(1, 0, 0);
        x.weave(2, false);
        x.unpick(2);
        x.undo();
        x.setDelay(4);
        x.setDelay(4);
        x.setDelay(5);
        x.weave(7, false);
        x.unpick(3);
        x.unpick(0);
        x.unpick(0);
        x.setStock(0, 0);
        x.beat();
        Checks.added(x, "abcd", 0, 0, 0, 1);
        Checks.added(x, "ab", 0, 0, 0, 1);
        Checks.added(x, "ab", 0, 0, 0, 1);
        int[] due = {9, 0, 1, 2, 0, 1, 1, 2, 7};
        for (int what = 0; what <= 8; what++) {
            Checks.due("account(" + what + ")", due[what], x.account(what));
        }
        Checks.dueArgument("account(9)", () -> x.account(9));
        Checks.dueArgument("account(-1)", () -> x.account(-1));
        x.setStock(0, 500);
        x.weave(6, false);
        x.beat();
        Checks.due("no row is open", 1, x.account(1));
        Checks.due("minutes, with those of unpicked rows", 7 + 8 + 11 + 10 + 3 * 3, x.account(8));
        x.undo();
        Checks.due("acts, with what was undone", 11, x.account(0));
        x.weave(6, false);
        Checks.due("minutes, with those of undone rows", 45 + 38, x.account(8));
    }
}
