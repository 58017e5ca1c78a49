/** The edges of promises 8 to 14: numbers of the loom, its captions, letters, cells, colours and mistakes. */
public final class StateEdgeTest {
    /** The letter i has the bits 111 010 010 010 111, from the top row down. */
    private static final String LETTER_I = "loom 12 8;caption i at 0 0 in 1;";

    public static void main(String[] args) {
        countWhat();
        countEdges();
        captionArguments();
        captionRows();
        captionLetters();
        captionGhosts();
        captionMistakes();
        letterArguments();
        letterReading();
        letterPicture();
        cell();
        design();
        designOfBox();
        colourArguments();
        colourEdges();
        mistakesWhat();
        mistakesSeen();
        mistakesByLooking();
        mistakesToUnpick();
        Checks.endEdges(8, 14);
    }

    private static void countWhat() {
        Checks.edge(8, "what is 0 at least", () -> {
            CaptionLoom x = new CaptionLoom();
            Checks.dueArgument("count(-1)", () -> x.count(-1));
            Checks.dueArgument("count(MIN)", () -> x.count(Integer.MIN_VALUE));
            Checks.due("count(0)", 12, x.count(0));
        });
        Checks.edge(8, "what is 8 at most", () -> {
            CaptionLoom x = new CaptionLoom();
            Checks.dueArgument("count(9)", () -> x.count(9));
            Checks.dueArgument("count(MAX)", () -> x.count(Integer.MAX_VALUE));
            Checks.due("count(8)", 0, x.count(8));
        });
    }

    private static void countEdges() {
        Checks.edge(8, "2: finished rows, none to all", () -> {
            CaptionLoom x = Checks.loaded("loom 8 6;");
            x.pass(1, 0, 7);
            Checks.due("a full row that is open is not finished", 0, x.count(2));
            x.weave(6, false);
            Checks.due("all", 6, x.count(2));
        });
        Checks.edge(8, "3: cells of the open row, none to all", () -> {
            CaptionLoom x = new CaptionLoom();
            Checks.due("none", 0, x.count(3));
            x.pass(0, 0, 0);
            Checks.due("the ground is a colour, too", 1, x.count(3));
            x.pass(1, 0, 11);
            Checks.due("all", 12, x.count(3));
            x.beat();
            Checks.due("of the next row", 0, x.count(3));
        });
        Checks.edge(8, "3: no cells, if no row is open", () -> {
            CaptionLoom x = new CaptionLoom();
            x.weave(7, false);
            x.pass(1, 0, 4);
            Checks.due("of the last row", 5, x.count(3));
            x.beat();
            Checks.due("of none", 0, x.count(3));
        });
        Checks.edge(8, "3: no cells above the greatest HEIGHT", () -> {
            CaptionLoom x = Checks.loaded("loom 8 30;");
            x.weave(30, false);
            Checks.due("of none", 0, x.count(3));
        });
        Checks.edge(8, "4 and 7: captions and their letters, none to all", () -> {
            CaptionLoom x = Checks.loaded("loom 40 30;");
            Checks.due("captions", 0, x.count(4));
            Checks.due("letters", 0, x.count(7));
            for (int i = 0; i < 8; i++) {
                boolean isLong = i < 4;
                Checks.due("add", i, Checks.added(x, isLong ? "abcdefgh" : "i", 0, isLong ? 0 : 4 * i,
                    isLong ? 5 * i : 20, 1));
            }
            Checks.due("captions", 8, x.count(4));
            Checks.due("letters", 36, x.count(7));
        });
        Checks.edge(8, "5: DELAY 0 and 30", () -> {
            CaptionLoom x = new CaptionLoom();
            x.setDelay(0);
            Checks.due("DELAY", 0, x.count(5));
            x.setDelay(30);
            Checks.due("DELAY", 30, x.count(5));
        });
        Checks.edge(8, "6: LOOKED, none to all rows", () -> {
            CaptionLoom x = Checks.loaded("loom 8 6;");
            x.look();
            Checks.due("LOOKED", 0, x.count(6));
            x.weave(6, false);
            Checks.due("LOOKED", 0, x.count(6));
            x.look();
            Checks.due("LOOKED", 6, x.count(6));
        });
        Checks.edge(8, "8: acts that can be undone, 8 at most", () -> {
            CaptionLoom x = new CaptionLoom();
            for (int i = 1; i <= 9; i++) {
                x.look();
                Checks.due("after " + i, i > 8 ? 8 : i, x.count(8));
            }
        });
    }

    private static void captionArguments() {
        Checks.edge(9, "no caption -1", () -> {
            CaptionLoom x = Checks.loaded(LETTER_I);
            Checks.dueIndex("caption(-1, 0)", () -> x.caption(-1, 0));
            Checks.dueIndex("caption(MIN, 0)", () -> x.caption(Integer.MIN_VALUE, 0));
            Checks.due("caption(0, 0)", 1, x.caption(0, 0));
        });
        Checks.edge(9, "no caption behind the last one", () -> {
            CaptionLoom x = Checks.loaded(LETTER_I + "caption ab at 4 0 in 1;");
            Checks.dueIndex("caption(2, 0)", () -> x.caption(2, 0));
            Checks.dueIndex("caption(MAX, 0)", () -> x.caption(Integer.MAX_VALUE, 0));
            Checks.due("caption(1, 0)", 2, x.caption(1, 0));
            x.drop(0);
            Checks.dueIndex("caption(1, 0)", () -> x.caption(1, 0));
        });
        Checks.edge(9, "no caption at all", () -> {
            CaptionLoom x = new CaptionLoom();
            Checks.dueIndex("caption(0, 0)", () -> x.caption(0, 0));
        });
        Checks.edge(9, "what is 0 at least", () -> {
            CaptionLoom x = Checks.loaded(LETTER_I);
            Checks.dueArgument("caption(0, -1)", () -> x.caption(0, -1));
            Checks.due("caption(0, 0)", 1, x.caption(0, 0));
        });
        Checks.edge(9, "what is 9 at most", () -> {
            CaptionLoom x = Checks.loaded(LETTER_I);
            Checks.dueArgument("caption(0, 10)", () -> x.caption(0, 10));
            Checks.due("caption(0, 9)", 0, x.caption(0, 9));
        });
        Checks.edge(9, "of two exceptions the first in the list", () -> {
            CaptionLoom x = Checks.loaded(LETTER_I);
            Checks.dueIndex("caption(1, 10)", () -> x.caption(1, 10));
            Checks.dueIndex("caption(-1, -1)", () -> x.caption(-1, -1));
        });
    }

    private static void captionRows() {
        Checks.edge(9, "5: its finished rows, none to five", () -> {
            CaptionLoom x = Checks.loaded("loom 12 9;caption i at 0 2 in 1;");
            int[] due = {0, 0, 0, 1, 2, 3, 4, 5, 5, 5};
            for (int rows = 0; rows <= 9; rows++) {
                Checks.due("with " + rows + " finished rows", due[rows], x.caption(0, 5));
                x.weave(rows < 9 ? 1 : 30, false);
            }
        });
        Checks.edge(9, "5: a row that is open is not finished", () -> {
            CaptionLoom x = Checks.loaded(LETTER_I);
            x.weave(4, false);
            x.pass(1, 0, 11);
            Checks.due("rows", 4, x.caption(0, 5));
        });
        Checks.edge(9, "5: no row of a caption at the top", () -> {
            CaptionLoom x = Checks.loaded("loom 12 30;caption i at 0 25 in 1;");
            x.weave(25, false);
            Checks.due("rows", 0, x.caption(0, 5));
            x.weave(5, false);
            Checks.due("rows", 5, x.caption(0, 5));
        });
    }

    private static void captionLetters() {
        Checks.edge(9, "6: a letter can be read if its five rows are finished", () -> {
            CaptionLoom x = Checks.loaded("loom 12 8;caption oi at 0 1 in 1;");
            x.weave(5, false);
            Checks.due("with four of them", 0, x.caption(0, 6));
            x.weave(1, false);
            Checks.due("with five of them", 2, x.caption(0, 6));
        });
        Checks.edge(9, "6: one cell that is wrong", () -> {
            CaptionLoom x = Checks.loaded("loom 12 8;caption oi at 0 0 in 1;");
            Checks.passColumn(x, 2, 0);
            x.weave(5, false);
            Checks.due("the i alone", 1, x.caption(0, 6));
        });
        Checks.edge(9, "6: a cell between the letters, and colours but COLOUR, are not read", () -> {
            CaptionLoom x = Checks.loaded("loom 12 8;caption ll at 0 0 in 1;");
            Checks.passColumn(x, 1, 3);
            Checks.passColumn(x, 1, 7);
            x.weave(1, false);
            Checks.passColumn(x, 2, 1);
            x.weave(4, false);
            Checks.due("both", 2, x.caption(0, 6));
            Checks.due("mistakes in the box", 2, x.caption(0, 9));
        });
        Checks.edge(9, "7: read so turned, if its five rows are finished", () -> {
            // b is the mirror image of d; both are woven blind at their mirror's place
            CaptionLoom x = Checks.loaded("loom 11 8;caption bd at 2 1 in 1;");
            x.weave(5, true);
            Checks.due("with four of them", 0, x.caption(0, 7));
            x.weave(1, true);
            Checks.due("with five of them", 0, x.caption(0, 7));
            Checks.due("as they are", 2, x.caption(0, 6));
            CaptionLoom y = Checks.loaded("loom 11 8;caption bb at 2 1 in 1;");
            y.weave(5, true);
            Checks.due("with four of them", 0, y.caption(0, 7));
            y.weave(1, true);
            Checks.due("with five of them", 2, y.caption(0, 7));
            Checks.due("as they are", 0, y.caption(0, 6));
        });
        Checks.edge(9, "7: a letter that is its own mirror image is read both ways", () -> {
            CaptionLoom x = Checks.loaded("loom 12 8;caption ob at 0 0 in 1;");
            x.weave(5, false);
            Checks.due("turned", 1, x.caption(0, 7));
            Checks.due("as they are", 2, x.caption(0, 6));
        });
    }

    private static void captionGhosts() {
        Checks.edge(9, "8: no ghost ahead of the five rows", () -> {
            CaptionLoom x = Checks.loaded("loom 12 8;caption bl at 0 1 in 1;");
            x.weave(5, true);
            Checks.due("with four of them", 0, x.caption(0, 8));
            x.weave(1, true);
            Checks.due("with five of them", 2, x.caption(0, 8));
        });
        Checks.edge(9, "8: a fifth row that is full, and open, is not finished", () -> {
            CaptionLoom x = Checks.loaded("loom 12 8;caption l at 0 0 in 1;");
            x.weave(4, true);
            Checks.passColumn(x, 1, 11);
            x.pass(0, 1, 11);
            Checks.due("open", 0, x.caption(0, 8));
            x.beat();
            Checks.due("finished", 1, x.caption(0, 8));
        });
        Checks.edge(9, "8: the ghost of the column c lies in the column WIDTH - 1 - c", () -> {
            CaptionLoom x = Checks.loaded("loom 12 8;caption l at 0 0 in 1;");
            for (int row = 0; row < 5; row++) {
                Checks.passColumn(x, 1, 11);
                if (row == 0) {
                    Checks.passColumn(x, 1, 10);
                    Checks.passColumn(x, 1, 9);
                }
                x.beat();
            }
            Checks.due("ghosts", 1, x.caption(0, 8));
            CaptionLoom y = Checks.loaded("loom 12 8;caption l at 0 0 in 1;");
            for (int row = 0; row < 5; row++) {
                Checks.passColumn(y, 1, 10);
                y.beat();
            }
            Checks.due("ghosts", 0, y.caption(0, 8));
        });
        Checks.edge(9, "8: ghosts at the edges of the widest loom, from the rear", () -> {
            CaptionLoom x = Checks.loaded("loom 40 8;caption bl rear at 0 0 in 1;caption d rear at 37 0 in 2;");
            x.weave(5, true);
            Checks.due("ghosts of bl", 2, x.caption(0, 8));
            Checks.due("ghosts of d", 1, x.caption(1, 8));
            Checks.due("read of d", 0, x.caption(1, 6));
        });
    }

    private static void captionMistakes() {
        // the box of i at 4, 1 has the columns 4 to 6 and the rows 1 to 5
        for (int[] c : new int[][] {{4, 1, 1}, {6, 1, 1}, {4, 5, 1}, {6, 5, 1}, {3, 1, 0}, {7, 1, 0}, {3, 5, 0},
            {7, 5, 0}, {4, 0, 0}, {6, 0, 0}, {4, 6, 0}, {6, 6, 0}}) {
            String where = c[0] + ", " + c[1] + (c[2] == 1 ? " in" : " beside") + " the box";
            Checks.edge(9, "9: a mistake at " + where, () -> {
                CaptionLoom x = Checks.loaded("loom 12 8;caption i at 4 1 in 1;");
                oneMistake(x, c[0], c[1]);
                Checks.due("caption(0, 9)", c[2], x.caption(0, 9));
            });
        }
        // the warps 4 to 10 are the columns 7 to 1
        for (int[] c : new int[][] {{1, 1, 1}, {7, 1, 1}, {4, 3, 1}, {0, 1, 0}, {8, 1, 0}}) {
            Checks.edge(9, "9: a mistake at " + c[0] + ", " + c[1] + " of a box of the rear", () -> {
                CaptionLoom x = Checks.loaded("loom 12 8;caption ii rear at 4 1 in 1;");
                oneMistake(x, c[0], c[1]);
                Checks.due("caption(0, 9)", c[2], x.caption(0, 9));
            });
        }
        Checks.edge(9, "9: also between its letters", () -> {
            CaptionLoom x = Checks.loaded("loom 12 8;caption ii at 1 1 in 1;");
            oneMistake(x, 4, 2);
            Checks.due("caption(0, 9)", 1, x.caption(0, 9));
        });
        Checks.edge(9, "9: a cell of the open row is no mistake", () -> {
            CaptionLoom x = Checks.loaded(LETTER_I);
            x.pass(2, 9, 11);
            Checks.due("open", 0, x.caption(0, 9));
            x.beat();
            Checks.due("finished", 3, x.caption(0, 9));
        });
    }

    /** All rows are woven right, but for one cell that has the colour 5. */
    private static void oneMistake(CaptionLoom x, int column, int row) {
        if (row > 0) {
            x.weave(row, false);
        }
        Checks.passColumn(x, 5, column);
        x.weave(x.count(1) - row, false);
        Checks.due("mistakes", 1, x.mistakes(0));
    }

    private static void letterArguments() {
        String two = "loom 12 8;caption az at 0 0 in 1;";
        Checks.edge(10, "no caption -1, and none behind the last one", () -> {
            CaptionLoom x = Checks.loaded(two);
            Checks.dueIndex("letter(-1, 0, 0)", () -> x.letter(-1, 0, 0));
            Checks.dueIndex("letter(1, 0, 0)", () -> x.letter(1, 0, 0));
            Checks.due("letter(0, 0, 0)", 1, x.letter(0, 0, 0));
        });
        Checks.edge(10, "no letter -1", () -> {
            CaptionLoom x = Checks.loaded(two);
            Checks.dueIndex("letter(0, -1, 0)", () -> x.letter(0, -1, 0));
            Checks.dueIndex("letter(0, MIN, 0)", () -> x.letter(0, Integer.MIN_VALUE, 0));
            Checks.due("letter(0, 0, 0)", 1, x.letter(0, 0, 0));
        });
        Checks.edge(10, "no letter behind the last one", () -> {
            CaptionLoom x = Checks.loaded(two);
            Checks.dueIndex("letter(0, 2, 0)", () -> x.letter(0, 2, 0));
            Checks.dueIndex("letter(0, MAX, 0)", () -> x.letter(0, Integer.MAX_VALUE, 0));
            Checks.due("letter(0, 1, 0)", 26, x.letter(0, 1, 0));
        });
        Checks.edge(10, "no letter behind the eighth one", () -> {
            CaptionLoom x = Checks.loaded("loom 31 8;caption abcdefgz at 0 0 in 1;");
            Checks.dueIndex("letter(0, 8, 0)", () -> x.letter(0, 8, 0));
            Checks.due("letter(0, 7, 0)", 26, x.letter(0, 7, 0));
        });
        Checks.edge(10, "what is 0 at least", () -> {
            CaptionLoom x = Checks.loaded(two);
            Checks.dueArgument("letter(0, 0, -1)", () -> x.letter(0, 0, -1));
            Checks.due("letter(0, 1, 0)", 26, x.letter(0, 1, 0));
        });
        Checks.edge(10, "what is 3 at most", () -> {
            CaptionLoom x = Checks.loaded(two);
            Checks.dueArgument("letter(0, 0, 4)", () -> x.letter(0, 0, 4));
            Checks.due("letter(0, 0, 3)", -1, x.letter(0, 0, 3));
        });
        Checks.edge(10, "of two exceptions the first in the list", () -> {
            CaptionLoom x = Checks.loaded(two);
            Checks.dueIndex("letter(1, 0, 4)", () -> x.letter(1, 0, 4));
            Checks.dueIndex("letter(0, 2, -1)", () -> x.letter(0, 2, -1));
        });
    }

    private static void letterReading() {
        Checks.edge(10, "1 to 3: NONE if it cannot be read", () -> {
            CaptionLoom x = Checks.loaded("loom 12 8;caption i at 0 1 in 1;");
            x.weave(5, false);
            x.pass(1, 9, 11);
            for (int what = 1; what <= 3; what++) {
                Checks.due("with four rows, letter(0, 0, " + what + ")", -1, x.letter(0, 0, what));
            }
            Checks.due("letter(0, 0, 0)", 9, x.letter(0, 0, 0));
            x.beat();
            Checks.due("with five rows, read", 9, x.letter(0, 0, 1));
            Checks.due("with five rows, turned", 9, x.letter(0, 0, 2));
            Checks.due("with five rows, picture", 29847, x.letter(0, 0, 3));
        });
        Checks.edge(10, "1 to 3: all rows finished, the caption at the top", () -> {
            CaptionLoom x = Checks.loaded("loom 12 8;caption b at 0 3 in 1;");
            x.weave(7, false);
            Checks.due("with seven rows", -1, x.letter(0, 0, 1));
            x.weave(1, false);
            Checks.due("read", 2, x.letter(0, 0, 1));
            Checks.due("turned", 4, x.letter(0, 0, 2));
        });
        Checks.edge(10, "1 and 2: nothing is 0", () -> {
            CaptionLoom x = Checks.loaded("loom 12 8;caption e at 0 0 in 1;");
            x.weave(5, false);
            Checks.due("read", 5, x.letter(0, 0, 1));
            Checks.due("turned", 0, x.letter(0, 0, 2));
            x.unpick(5);
            x.weave(5, true);
            Checks.due("read", 0, x.letter(0, 0, 1));
        });
        Checks.edge(10, "after unpicking it cannot be read", () -> {
            CaptionLoom x = Checks.loaded(LETTER_I);
            x.weave(5, false);
            Checks.due("read", 9, x.letter(0, 0, 1));
            x.unpick(0);
            Checks.due("the open row alone", 9, x.letter(0, 0, 1));
            x.unpick(1);
            Checks.due("one row", -1, x.letter(0, 0, 1));
        });
    }

    private static void letterPicture() {
        Checks.edge(10, "3: the glyphs of the first letter, a, and of the last one, z", () -> {
            CaptionLoom x = Checks.loaded("loom 12 8;caption az at 0 0 in 1;");
            x.weave(5, false);
            Checks.due("a", 11245, x.letter(0, 0, 3));
            Checks.due("z", 29351, x.letter(0, 1, 3));
            Checks.due("a is read", 1, x.letter(0, 0, 1));
            Checks.due("z is read", 26, x.letter(0, 1, 1));
        });
        Checks.edge(10, "3: a picture without a bit is 0", () -> {
            CaptionLoom x = Checks.loaded(LETTER_I);
            for (int row = 0; row < 5; row++) {
                x.beat();
            }
            Checks.due("picture", 0, x.letter(0, 0, 3));
            Checks.due("read", 0, x.letter(0, 0, 1));
        });
        Checks.edge(10, "3: a picture of all bits is 32767", () -> {
            CaptionLoom x = Checks.loaded(LETTER_I);
            for (int row = 0; row < 5; row++) {
                x.pass(1, 0, 11);
                x.beat();
            }
            Checks.due("picture", 32767, x.letter(0, 0, 3));
        });
        Checks.edge(10, "3: the highest bit is that of the top row, and the least column", () -> {
            CaptionLoom x = Checks.loaded(LETTER_I);
            for (int row = 0; row < 4; row++) {
                x.beat();
            }
            Checks.passColumn(x, 1, 0);
            x.beat();
            Checks.due("picture", 1 << 14, x.letter(0, 0, 3));
        });
        Checks.edge(10, "3: from the rear the highest bit is that of the least warp", () -> {
            CaptionLoom x = Checks.loaded("loom 12 8;caption i rear at 0 0 in 1;");
            for (int row = 0; row < 4; row++) {
                x.beat();
            }
            x.pass(1, 0, 0);
            x.beat();
            Checks.due("picture", 1 << 14, x.letter(0, 0, 3));
        });
        Checks.edge(10, "3: the lowest bit is that of the bottom row, and the greatest column", () -> {
            CaptionLoom x = Checks.loaded(LETTER_I);
            Checks.passColumn(x, 1, 2);
            for (int row = 0; row < 5; row++) {
                x.beat();
            }
            Checks.due("picture", 1, x.letter(0, 0, 3));
        });
    }

    private static void cell() {
        for (String size : new String[] {"8 6", "12 8", "40 30"}) {
            Checks.edge(11, "the edges of a loom of " + size, () -> {
                CaptionLoom x = Checks.loaded("loom " + size + ";");
                int width = x.count(0);
                int height = x.count(1);
                Checks.dueIndex("the column -1", () -> x.cell(-1, 0));
                Checks.dueIndex("the column WIDTH", () -> x.cell(width, 0));
                Checks.dueIndex("the row -1", () -> x.cell(0, -1));
                Checks.dueIndex("the row HEIGHT", () -> x.cell(0, height));
                Checks.dueIndex("far off", () -> x.cell(Integer.MAX_VALUE, Integer.MIN_VALUE));
                x.setStock(0, 9999);
                x.weave(height, false);
                Checks.due("the first cell", 0, x.cell(0, 0));
                Checks.due("the last cell", 0, x.cell(width - 1, height - 1));
            });
        }
        Checks.edge(11, "NONE for an empty cell of the open row, and for those above", () -> {
            CaptionLoom x = new CaptionLoom();
            x.pass(0, 0, 0);
            Checks.due("the ground", 0, x.cell(11, 0));
            Checks.due("an empty cell", -1, x.cell(10, 0));
            Checks.due("a row above", -1, x.cell(11, 1));
        });
        Checks.edge(11, "the warp w is the column WIDTH - 1 - w", () -> {
            CaptionLoom x = Checks.loaded("loom 9 6;");
            x.pass(1, 0, 0);
            x.pass(2, 8, 8);
            x.pass(3, 4, 4);
            Checks.due("the warp 0", 1, x.cell(8, 0));
            Checks.due("the warp 8", 2, x.cell(0, 0));
            Checks.due("the middle", 3, x.cell(4, 0));
        });
    }

    private static void design() {
        for (String size : new String[] {"8 6", "12 8", "40 30"}) {
            Checks.edge(12, "the edges of a loom of " + size, () -> {
                CaptionLoom x = Checks.loaded("loom " + size + ";caption i at 0 0 in 6;");
                int width = x.count(0);
                int height = x.count(1);
                Checks.dueIndex("the column -1", () -> x.design(-1, 0));
                Checks.dueIndex("the column WIDTH", () -> x.design(width, 0));
                Checks.dueIndex("the row -1", () -> x.design(0, -1));
                Checks.dueIndex("the row HEIGHT", () -> x.design(0, height));
                Checks.due("the first cell", 6, x.design(0, 0));
                x.move(0, width - 3, height - 5);
                Checks.due("the first cell", 0, x.design(0, 0));
                Checks.due("the last cell", 6, x.design(width - 1, height - 1));
            });
        }
        Checks.edge(12, "0 without captions", () -> {
            CaptionLoom x = new CaptionLoom();
            Checks.due("design(0, 0)", 0, x.design(0, 0));
            Checks.due("design(11, 7)", 0, x.design(11, 7));
        });
    }

    private static void designOfBox() {
        // l has the bits 100 100 100 100 111, from the top row down
        int[][] front = {{3, 1, 0}, {4, 1, 2}, {6, 1, 2}, {7, 1, 0}, {8, 1, 2}, {10, 1, 2}, {11, 1, 0}, {4, 0, 0},
            {4, 5, 2}, {5, 5, 0}, {4, 6, 0}, {8, 5, 2}, {8, 6, 0}};
        Checks.edge(12, "the letter k has the columns X + 4k to X + 4k + 2, the rows Y to Y + 4", () -> {
            CaptionLoom x = Checks.loaded("loom 20 8;caption ll at 4 1 in 2;");
            for (int[] c : front) {
                Checks.due("design(" + c[0] + ", " + c[1] + ")", c[2], x.design(c[0], c[1]));
            }
        });
        Checks.edge(12, "the letter k has the warps X + 4k to X + 4k + 2 from the rear", () -> {
            CaptionLoom x = Checks.loaded("loom 20 8;caption ll rear at 4 1 in 2;");
            for (int[] c : front) {
                Checks.due("warp " + c[0] + ", row " + c[1], c[2], x.design(19 - c[0], c[1]));
            }
        });
        Checks.edge(12, "no letter behind the last one, also where a longer WORD was told before", () -> {
            CaptionLoom x = Checks.loaded("loom 20 8;caption lllll at 0 0 in 2;");
            Checks.say(x, "loom 20 8;caption l at 0 0 in 2;");
            x.load();
            Checks.due("of a design", 0, x.design(4, 0));
            Checks.due("add", -6, Checks.added(x, "lll", 0, 0, 0, 1));
            Checks.due("add", 1, Checks.added(x, "l", 0, 4, 0, 1));
            Checks.due("of a caption that was added", 0, x.design(8, 0));
        });
        Checks.edge(12, "the eighth letter, at the end of the box", () -> {
            CaptionLoom x = Checks.loaded("loom 31 6;caption lllllllj at 0 1 in 2;");
            Checks.due("j at its bottom", 2, x.design(28, 1));
            Checks.due("j above it", 0, x.design(28, 2));
            Checks.due("j at its right", 2, x.design(30, 5));
        });
    }

    private static void colourArguments() {
        Checks.edge(13, "no colour -1", () -> {
            CaptionLoom x = new CaptionLoom();
            Checks.dueIndex("colour(-1, 0)", () -> x.colour(-1, 0));
            Checks.dueIndex("colour(MIN, 0)", () -> x.colour(Integer.MIN_VALUE, 0));
            Checks.due("colour(0, 0)", 500, x.colour(0, 0));
        });
        Checks.edge(13, "no colour 7", () -> {
            CaptionLoom x = new CaptionLoom();
            Checks.dueIndex("colour(7, 0)", () -> x.colour(7, 0));
            Checks.dueIndex("colour(MAX, 0)", () -> x.colour(Integer.MAX_VALUE, 0));
            Checks.due("colour(6, 0)", 500, x.colour(6, 0));
        });
        Checks.edge(13, "what is 0 at least", () -> {
            CaptionLoom x = new CaptionLoom();
            Checks.dueArgument("colour(0, -1)", () -> x.colour(0, -1));
            Checks.due("colour(0, 0)", 500, x.colour(0, 0));
        });
        Checks.edge(13, "what is 4 at most", () -> {
            CaptionLoom x = new CaptionLoom();
            Checks.dueArgument("colour(0, 5)", () -> x.colour(0, 5));
            Checks.due("colour(0, 4)", 0, x.colour(0, 4));
        });
        Checks.edge(13, "of two exceptions the first in the list", () -> {
            CaptionLoom x = new CaptionLoom();
            Checks.dueIndex("colour(7, 5)", () -> x.colour(7, 5));
            Checks.dueIndex("colour(-1, -1)", () -> x.colour(-1, -1));
        });
    }

    private static void colourEdges() {
        Checks.edge(13, "1: cells of finished rows, not of the open one", () -> {
            CaptionLoom x = new CaptionLoom();
            x.pass(1, 0, 4);
            Checks.due("open", 0, x.colour(1, 1));
            x.beat();
            Checks.due("finished", 5, x.colour(1, 1));
        });
        Checks.edge(13, "2: cells of the design, also of rows that are finished", () -> {
            CaptionLoom x = Checks.loaded(LETTER_I);
            x.weave(8, true);
            Checks.due("of the caption", 9, x.colour(1, 2));
            Checks.due("of the ground", 87, x.colour(0, 2));
        });
        Checks.edge(13, "3: with the cells of the open row that are empty, without those that are not", () -> {
            CaptionLoom x = Checks.loaded(LETTER_I);
            Checks.due("all", 9, x.colour(1, 3));
            Checks.passColumn(x, 2, 0);
            Checks.due("without one", 8, x.colour(1, 3));
            Checks.due("ground", 87, x.colour(0, 3));
            x.beat();
            Checks.due("without the row", 6, x.colour(1, 3));
            Checks.due("ground without the row", 78, x.colour(0, 3));
        });
        Checks.edge(13, "3: none if all rows are finished", () -> {
            CaptionLoom x = new CaptionLoom();
            x.weave(7, false);
            Checks.due("the last row", 12, x.colour(0, 3));
            x.pass(0, 0, 11);
            Checks.due("the last row, full", 0, x.colour(0, 3));
            x.beat();
            Checks.due("none", 0, x.colour(0, 3));
        });
        for (int cells = 0; cells <= 5; cells++) {
            int taken = cells;
            Checks.edge(13, "4: half of " + cells + ", rounded down", () -> {
                CaptionLoom x = new CaptionLoom();
                if (taken > 0) {
                    x.pass(1, 0, taken - 1);
                }
                Checks.due("of the open row", taken / 2, x.colour(1, 4));
                x.beat();
                Checks.due("of a finished row", taken / 2, x.colour(1, 4));
            });
        }
        Checks.edge(13, "4: half of all, not half of each row", () -> {
            CaptionLoom x = new CaptionLoom();
            x.pass(1, 0, 0);
            x.beat();
            x.pass(1, 0, 0);
            Checks.due("of 1 + 1", 1, x.colour(1, 4));
        });
        Checks.edge(13, "4: whatever STOCK is at most", () -> {
            CaptionLoom x = new CaptionLoom();
            x.pass(1, 0, 9);
            x.setStock(1, 9999);
            Checks.due("colour(1, 4)", 5, x.colour(1, 4));
        });
    }

    /** A row of the ground with one cell, of warp 0, in the colour 1. */
    private static void faultyRow(CaptionLoom x) {
        x.pass(1, 0, 0);
        x.beat();
    }

    private static void mistakesWhat() {
        Checks.edge(14, "what is 0 at least", () -> {
            CaptionLoom x = new CaptionLoom();
            faultyRow(x);
            Checks.dueArgument("mistakes(-1)", () -> x.mistakes(-1));
            Checks.due("mistakes(0)", 1, x.mistakes(0));
        });
        Checks.edge(14, "what is 5 at most", () -> {
            CaptionLoom x = new CaptionLoom();
            faultyRow(x);
            Checks.dueArgument("mistakes(6)", () -> x.mistakes(6));
            Checks.due("mistakes(5)", 0, x.mistakes(5));
        });
        Checks.edge(14, "0: a mistake is a cell of a finished row", () -> {
            CaptionLoom x = new CaptionLoom();
            x.pass(1, 0, 11);
            Checks.due("open", 0, x.mistakes(0));
            x.beat();
            Checks.due("finished", 12, x.mistakes(0));
        });
        Checks.edge(14, "0 to 5 without rows", () -> {
            CaptionLoom x = Checks.loaded(LETTER_I);
            int[] due = {0, 0, 0, -1, 0, 0};
            for (int what = 0; what <= 5; what++) {
                Checks.due("mistakes(" + what + ")", due[what], x.mistakes(what));
            }
        });
        Checks.edge(14, "2: a row with many mistakes is one", () -> {
            CaptionLoom x = new CaptionLoom();
            x.pass(1, 0, 11);
            x.beat();
            Checks.due("one", 1, x.mistakes(2));
            faultyRow(x);
            Checks.due("two", 2, x.mistakes(2));
            x.beat();
            Checks.due("a right one", 2, x.mistakes(2));
        });
        Checks.edge(14, "by the design as it is now", () -> {
            CaptionLoom x = new CaptionLoom();
            x.weave(8, false);
            Checks.due("right", 0, x.mistakes(0));
            Checks.added(x, "i", 0, 0, 0, 1);
            Checks.due("with a caption", 9, x.mistakes(0));
            x.drop(0);
            Checks.due("without it", 0, x.mistakes(0));
        });
    }

    private static void mistakesSeen() {
        for (int delay : new int[] {0, 1, 4, 7}) {
            Checks.edge(14, "seen if at least DELAY finished rows lie above: " + delay, () -> {
                CaptionLoom x = Checks.loaded("loom 12 8;delay " + delay + ";");
                faultyRow(x);
                for (int above = 0; above < delay; above++) {
                    Checks.due("with " + above + " rows above", 0, x.mistakes(1));
                    Checks.due("its row", -1, x.mistakes(3));
                    x.beat();
                }
                Checks.due("with " + delay + " rows above", 1, x.mistakes(1));
                Checks.due("its row", 0, x.mistakes(3));
            });
        }
        Checks.edge(14, "a row that is open does not lie above", () -> {
            CaptionLoom x = Checks.loaded("loom 12 8;delay 1;");
            faultyRow(x);
            x.pass(0, 0, 11);
            Checks.due("open", 0, x.mistakes(1));
            x.beat();
            Checks.due("finished", 1, x.mistakes(1));
        });
        Checks.edge(14, "DELAY 30 is more than any rows above", () -> {
            CaptionLoom x = Checks.loaded("loom 8 30;delay 30;");
            faultyRow(x);
            x.weave(29, false);
            Checks.due("with 29 above", 0, x.mistakes(1));
            x.setDelay(29);
            Checks.due("with 29 above", 1, x.mistakes(1));
        });
        Checks.edge(14, "3: the lowest row with a mistake that is seen", () -> {
            CaptionLoom x = Checks.loaded("loom 12 8;delay 0;");
            x.beat();
            Checks.due("without a mistake", -1, x.mistakes(3));
            faultyRow(x);
            Checks.due("of one", 1, x.mistakes(3));
            faultyRow(x);
            Checks.due("of two", 1, x.mistakes(3));
        });
    }

    private static void mistakesByLooking() {
        Checks.edge(14, "seen if its number is less than LOOKED", () -> {
            CaptionLoom x = new CaptionLoom();
            faultyRow(x);
            faultyRow(x);
            x.look();
            faultyRow(x);
            Checks.due("LOOKED", 2, x.count(6));
            Checks.due("the rows 0 and 1, not 2", 2, x.mistakes(1));
        });
        Checks.edge(14, "by unpicking LOOKED becomes the number of finished rows, if that is less", () -> {
            CaptionLoom x = new CaptionLoom();
            for (int row = 0; row < 4; row++) {
                faultyRow(x);
            }
            x.unpick(1);
            x.look();
            x.beat();
            x.beat();
            Checks.due("LOOKED", 3, x.count(6));
            x.unpick(1);
            Checks.due("with 4 rows", 3, x.count(6));
            x.unpick(1);
            Checks.due("with 3 rows", 3, x.count(6));
            x.unpick(1);
            Checks.due("with 2 rows", 2, x.count(6));
            faultyRow(x);
            Checks.due("the row 2, anew, is not seen", 2, x.mistakes(1));
            x.unpick(3);
            Checks.due("with none", 0, x.count(6));
        });
    }

    private static void mistakesToUnpick() {
        Checks.edge(14, "4: all rows, for a mistake in row 0", () -> {
            CaptionLoom x = new CaptionLoom();
            faultyRow(x);
            Checks.due("of 1", 1, x.mistakes(4));
            x.weave(7, false);
            Checks.due("of 8", 8, x.mistakes(4));
        });
        Checks.edge(14, "4: one row, for a mistake in the last one alone", () -> {
            CaptionLoom x = new CaptionLoom();
            x.weave(3, false);
            Checks.due("without one", 0, x.mistakes(4));
            faultyRow(x);
            Checks.due("with one", 1, x.mistakes(4));
            x.unpick(1);
            Checks.due("unpicked", 0, x.mistakes(0));
        });
        Checks.edge(14, "5: so that none that is seen now is left", () -> {
            CaptionLoom x = Checks.loaded("loom 12 8;delay 2;");
            x.beat();
            faultyRow(x);
            faultyRow(x);
            Checks.due("none is seen", 0, x.mistakes(5));
            x.beat();
            Checks.due("row 1 is seen", 3, x.mistakes(5));
            x.beat();
            Checks.due("rows 1 and 2 are seen", 4, x.mistakes(5));
            Checks.due("so that none is left", 4, x.mistakes(4));
        });
        Checks.edge(14, "5: a mistake that is not seen does not count", () -> {
            CaptionLoom x = Checks.loaded("loom 12 8;delay 30;");
            x.weave(2, false);
            x.look();
            faultyRow(x);
            Checks.due("row 2 is not seen", 0, x.mistakes(5));
            Checks.due("but it is one", 1, x.mistakes(4));
            x.look();
            Checks.due("row 2 is seen", 1, x.mistakes(5));
        });
    }
}
