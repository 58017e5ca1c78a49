/** The edges of promises 32 to 36: add, drop, move, setStock and setDelay. */
public final class CaptionActEdgeTest {
    private static final int MAX = Integer.MAX_VALUE;
    private static final int MIN = Integer.MIN_VALUE;

    public static void main(String[] args) {
        addArguments();
        addWord();
        addEmptiesText();
        addCaptions();
        addOnTheLoom();
        addOnAnother();
        addReasons();
        drop();
        moveOnTheLoom();
        moveOnAnother();
        moveMistakes();
        setStock();
        setDelay();
        Checks.endEdges(32, 36);
    }

    private static void dueAdd(int due, String design, String word, int side, int x, int y) {
        CaptionLoom loom = Checks.loaded(design);
        int captions = loom.count(4);
        Checks.due("add of " + word + " at " + x + ", " + y, due, Checks.added(loom, word, side, x, y, 1));
        Checks.due("captions", due < 0 ? captions : captions + 1, loom.count(4));
        if (due < 0) {
            Checks.due("refusals", 1, loom.account(-due));
            Checks.due("to undo", 0, loom.count(8));
        }
    }

    /** That the call throws, changes nothing, and empties the text buffer. */
    private static void dueAddThrows(String word, int side, int x, int colour) {
        CaptionLoom loom = new CaptionLoom();
        Checks.say(loom, word);
        Checks.dueArgument("add of '" + word + "'", () -> loom.add(side, x, 0, colour));
        Checks.due("captions", 0, loom.count(4));
        Checks.due("acts", 0, loom.account(0));
        Checks.due("refusals", 0, loom.account(5));
        Checks.dueNoText(loom);
    }

    private static void addArguments() {
        String design = "loom 12 8;";
        Checks.edge(32, "side is 0 or 1", () -> {
            dueAddThrows("a", -1, 0, 1);
            dueAddThrows("a", 2, 0, 1);
            dueAddThrows("a", MIN, 0, 1);
            dueAddThrows("a", MAX, 0, 1);
            dueAdd(0, design, "a", 0, 0, 0);
            dueAdd(0, design, "a", 1, 0, 0);
        });
        Checks.edge(32, "colour is 1 at least", () -> {
            dueAddThrows("a", 0, 0, 0);
            dueAddThrows("a", 0, 0, -1);
            CaptionLoom x = new CaptionLoom();
            Checks.due("add", 0, Checks.added(x, "a", 0, 0, 0, 1));
            Checks.due("COLOUR", 1, x.caption(0, 4));
        });
        Checks.edge(32, "colour is 6 at most", () -> {
            dueAddThrows("a", 0, 0, 7);
            dueAddThrows("a", 0, 0, MAX);
            CaptionLoom x = new CaptionLoom();
            Checks.due("add", 0, Checks.added(x, "a", 0, 0, 0, 6));
            Checks.due("COLOUR", 6, x.caption(0, 4));
        });
        Checks.edge(32, "exceptions come ahead of reasons", () -> {
            dueAddThrows("a", 2, 99, 1);
            dueAddThrows("a", 0, 99, 7);
            dueAddThrows("a1", 0, 99, 1);
            dueAdd(-5, design, "a", 0, 99, 0);
        });
        Checks.edge(32, "exceptions come ahead of the reason 4", () -> {
            CaptionLoom x = fullOfCaptions();
            Checks.dueArgument("add without a text", () -> x.add(0, 0, 5, 1));
            Checks.due("add", -4, Checks.added(x, "a", 0, 0, 5, 1));
        });
    }

    private static void addWord() {
        Checks.edge(32, "a WORD has 1 letter at least", () -> {
            dueAddThrows("", 0, 0, 1);
            dueAdd(0, "loom 12 8;", "a", 0, 0, 0);
        });
        Checks.edge(32, "a WORD has 8 letters at most", () -> {
            dueAddThrows("abcdefghi", 0, 0, 1);
            dueAddThrows("a".repeat(400), 0, 0, 1);
            CaptionLoom x = Checks.loaded("loom 31 6;");
            Checks.due("add", 0, Checks.added(x, "abcdefgh", 1, 0, 0, 1));
            Checks.due("letters", 8, x.caption(0, 0));
            Checks.due("the last one", 8, x.letter(0, 7, 0));
        });
        Checks.edge(32, "a WORD has letters from a to z", () -> {
            dueAddThrows("`", 0, 0, 1);
            dueAddThrows("{", 0, 0, 1);
            dueAddThrows("A", 0, 0, 1);
            dueAddThrows("a" + (char) 225, 0, 0, 1);
            dueAddThrows("a" + (char) 0, 0, 0, 1);
            dueAdd(0, "loom 12 8;", "az", 0, 0, 0);
        });
        Checks.edge(32, "the whole text, without spaces or anything else", () -> {
            dueAddThrows(" a", 0, 0, 1);
            dueAddThrows("a ", 0, 0, 1);
            dueAddThrows("a\n", 0, 0, 1);
            dueAddThrows("a b", 0, 0, 1);
            dueAddThrows("a;", 0, 0, 1);
            dueAddThrows(" ", 0, 0, 1);
        });
        Checks.edge(32, "any word", () -> {
            dueAdd(0, "loom 40 8;", "caption", 0, 0, 0);
            dueAdd(0, "loom 40 8;", "rear", 0, 0, 0);
        });
    }

    private static void addEmptiesText() {
        Checks.edge(32, "the text buffer is empty afterwards", () -> {
            CaptionLoom x = new CaptionLoom();
            Checks.due("add", 0, Checks.added(x, "a", 0, 0, 0, 1));
            Checks.dueNoText(x);
        });
        Checks.edge(32, "the text buffer is empty afterwards, also if it is refused", () -> {
            CaptionLoom x = new CaptionLoom();
            Checks.due("add", -5, Checks.added(x, "a", 0, 10, 0, 1));
            Checks.dueNoText(x);
            Checks.due("add", 0, Checks.added(x, "a", 0, 0, 0, 1));
            Checks.due("add", -6, Checks.added(x, "a", 0, 0, 0, 1));
            Checks.dueNoText(x);
        });
        Checks.edge(32, "the text buffer is empty afterwards, also if there are 8 captions", () -> {
            CaptionLoom x = fullOfCaptions();
            Checks.due("add", -4, Checks.added(x, "a", 0, 0, 5, 1));
            Checks.dueNoText(x);
        });
    }

    private static CaptionLoom fullOfCaptions() {
        CaptionLoom x = Checks.loaded("loom 40 11;");
        for (int i = 0; i < 8; i++) {
            Checks.due("add", i, Checks.added(x, "i", 0, 4 * i, 0, 1));
        }
        return x;
    }

    private static void addCaptions() {
        Checks.edge(32, "4: there are 8 captions", () -> {
            CaptionLoom x = fullOfCaptions();
            Checks.due("a ninth", -4, Checks.added(x, "i", 0, 0, 5, 1));
            Checks.due("captions", 8, x.count(4));
            Checks.due("refusals", 1, x.account(4));
            Checks.due("drop", 7, x.drop(3));
            Checks.due("an eighth", 7, Checks.added(x, "i", 0, 0, 5, 1));
        });
        Checks.edge(32, "the number of the caption: behind the others", () -> {
            CaptionLoom x = Checks.loaded("loom 40 11;");
            Checks.due("the first", 0, Checks.added(x, "a", 0, 0, 0, 1));
            Checks.due("the second", 1, Checks.added(x, "bc", 0, 20, 0, 2));
            Checks.due("the first one's letters", 1, x.caption(0, 0));
            Checks.due("the second one's letters", 2, x.caption(1, 0));
        });
    }

    private static void addOnTheLoom() {
        String design = "loom 12 8;";
        Checks.edge(32, "5: on the left", () -> {
            dueAdd(-5, design, "a", 0, -1, 0);
            dueAdd(-5, design, "a", 0, MIN, 0);
            dueAdd(0, design, "a", 0, 0, 0);
        });
        Checks.edge(32, "5: on the right", () -> {
            dueAdd(-5, design, "a", 0, 10, 0);
            dueAdd(-5, design, "a", 0, MAX, 0);
            dueAdd(0, design, "a", 0, 9, 0);
        });
        Checks.edge(32, "5: below", () -> {
            dueAdd(-5, design, "a", 0, 0, -1);
            dueAdd(-5, design, "a", 0, 0, MIN);
            dueAdd(0, design, "a", 0, 0, 0);
        });
        Checks.edge(32, "5: above", () -> {
            dueAdd(-5, design, "a", 0, 0, 4);
            dueAdd(-5, design, "a", 0, 0, MAX);
            dueAdd(0, design, "a", 0, 0, 3);
        });
        Checks.edge(32, "5: from the rear", () -> {
            dueAdd(-5, design, "ab", 1, 6, 0);
            dueAdd(0, design, "ab", 1, 5, 0);
            dueAdd(-5, design, "ab", 1, -1, 0);
            dueAdd(0, design, "ab", 1, 0, 0);
        });
        Checks.edge(32, "5: eight letters", () -> {
            dueAdd(-5, "loom 30 6;", "abcdefgh", 0, 0, 0);
            dueAdd(0, "loom 31 6;", "abcdefgh", 0, 0, 0);
        });
        Checks.edge(32, "5: no wrap-around of X + 4n - 2, nor of Y + 4", () -> {
            dueAdd(-5, design, "abc", 0, MAX - 9, 0);
            dueAdd(-5, design, "abc", 1, MAX - 5, 0);
            dueAdd(-5, design, "abc", 0, 0, MAX - 3);
        });
        Checks.edge(32, "a box on rows that are finished is no reason", () -> {
            CaptionLoom x = new CaptionLoom();
            x.weave(8, false);
            Checks.due("add", 0, Checks.added(x, "i", 0, 0, 0, 1));
            Checks.due("mistakes", 9, x.mistakes(0));
        });
    }

    private static void addOnAnother() {
        String one = "loom 20 16;caption i at 8 5 in 1;";
        Checks.edge(32, "6: on its left", () -> {
            dueAdd(-6, one, "i", 0, 6, 5);
            dueAdd(1, one, "i", 0, 5, 5);
        });
        Checks.edge(32, "6: on its right", () -> {
            dueAdd(-6, one, "i", 0, 10, 5);
            dueAdd(1, one, "i", 0, 11, 5);
        });
        Checks.edge(32, "6: below it", () -> {
            dueAdd(-6, one, "i", 0, 8, 1);
            dueAdd(1, one, "i", 0, 8, 0);
        });
        Checks.edge(32, "6: above it", () -> {
            dueAdd(-6, one, "i", 0, 8, 9);
            dueAdd(1, one, "i", 0, 8, 10);
        });
        Checks.edge(32, "6: the same box", () -> dueAdd(-6, one, "i", 0, 8, 5));
        Checks.edge(32, "6: a box around it", () -> {
            dueAdd(-6, one, "iiiii", 0, 0, 5);
            dueAdd(-6, one, "ii", 0, 4, 5);
            dueAdd(1, one, "ii", 0, 1, 5);
        });
        // the column 8 to 10 are the warps 11 to 9
        Checks.edge(32, "6: from the rear on one of the front", () -> {
            dueAdd(-6, one, "i", 1, 7, 5);
            dueAdd(1, one, "i", 1, 6, 5);
            dueAdd(-6, one, "i", 1, 11, 5);
            dueAdd(1, one, "i", 1, 12, 5);
        });
        String rear = "loom 20 16;caption ii rear at 8 5 in 1;";
        // the warps 8 to 14 are the columns 11 to 5
        Checks.edge(32, "6: from the front on one of the rear", () -> {
            dueAdd(-6, rear, "i", 0, 3, 5);
            dueAdd(1, rear, "i", 0, 2, 5);
            dueAdd(-6, rear, "i", 0, 11, 5);
            dueAdd(1, rear, "i", 0, 12, 5);
        });
        Checks.edge(32, "6: between its letters", () ->
            dueAdd(-6, "loom 20 16;caption ll at 8 5 in 1;", "t", 0, 10, 9));
        Checks.edge(32, "6: the last one of several", () -> {
            String two = "loom 20 16;caption i at 0 0 in 1;caption i at 8 5 in 1;";
            dueAdd(-6, two, "i", 0, 6, 5);
            dueAdd(2, two, "i", 0, 5, 5);
        });
    }

    private static void addReasons() {
        Checks.edge(32, "4 comes ahead of 5 and 6", () -> {
            CaptionLoom x = fullOfCaptions();
            Checks.due("off the loom", -4, Checks.added(x, "i", 0, 38, 0, 1));
            Checks.due("on another one", -4, Checks.added(x, "i", 0, 0, 0, 1));
            x.drop(7);
            Checks.due("off the loom", -5, Checks.added(x, "i", 0, 38, 0, 1));
            Checks.due("on another one", -6, Checks.added(x, "i", 0, 0, 0, 1));
        });
        Checks.edge(32, "5 comes ahead of 6", () -> {
            String one = "loom 12 8;caption i at 9 3 in 1;";
            dueAdd(-5, one, "i", 0, 10, 3);
            dueAdd(-5, one, "i", 0, 9, 4);
            dueAdd(-6, one, "i", 0, 9, 3);
        });
    }

    private static void drop() {
        Checks.edge(33, "no caption -1", () -> {
            CaptionLoom x = Checks.loaded("loom 12 8;caption a at 0 0 in 1;");
            Checks.dueIndex("drop(-1)", () -> x.drop(-1));
            Checks.dueIndex("drop(MIN)", () -> x.drop(MIN));
            Checks.due("drop(0)", 0, x.drop(0));
        });
        Checks.edge(33, "none behind the last one", () -> {
            CaptionLoom x = Checks.loaded("loom 12 8;caption a at 0 0 in 1;caption b at 4 0 in 1;");
            Checks.dueIndex("drop(2)", () -> x.drop(2));
            Checks.dueIndex("drop(MAX)", () -> x.drop(MAX));
            Checks.due("drop(1)", 1, x.drop(1));
            Checks.dueIndex("drop(1)", () -> x.drop(1));
        });
        Checks.edge(33, "no caption at all", () -> {
            CaptionLoom x = new CaptionLoom();
            Checks.dueIndex("drop(0)", () -> x.drop(0));
            Checks.due("acts", 0, x.account(0));
        });
        Checks.edge(33, "the first of eight: the numbers of those behind it become less by 1", () -> {
            CaptionLoom x = numbered();
            Checks.due("drop(0)", 7, x.drop(0));
            for (int i = 0; i < 7; i++) {
                Checks.due("the letter of " + i, i + 2, x.letter(i, 0, 0));
                Checks.due("X of " + i, 4 * i + 4, x.caption(i, 2));
            }
        });
        Checks.edge(33, "the last of eight: the numbers of the others stay", () -> {
            CaptionLoom x = numbered();
            Checks.due("drop(7)", 7, x.drop(7));
            for (int i = 0; i < 7; i++) {
                Checks.due("the letter of " + i, i + 1, x.letter(i, 0, 0));
            }
            Checks.dueIndex("letter(7, 0, 0)", () -> x.letter(7, 0, 0));
        });
        Checks.edge(33, "its design is gone, and its place is free", () -> {
            CaptionLoom x = numbered();
            Checks.due("drop(7)", 7, x.drop(7));
            Checks.due("place", 27, x.place(1, 0));
            Checks.due("cells of the design", 0, x.colour(2, 2));
        });
    }

    /** Eight captions, a to h, the last one in the colour 2. */
    private static CaptionLoom numbered() {
        CaptionLoom x = Checks.loaded("loom 31 6;");
        for (int i = 0; i < 8; i++) {
            Checks.added(x, String.valueOf((char) ('a' + i)), 0, 4 * i, 0, i < 7 ? 1 : 2);
        }
        return x;
    }

    private static void moveOnTheLoom() {
        String design = "loom 12 8;caption i at 4 1 in 1;";
        Checks.edge(34, "no caption -1, and none behind the last one", () -> {
            CaptionLoom x = Checks.loaded(design);
            Checks.dueIndex("move(-1, 0, 0)", () -> x.move(-1, 0, 0));
            Checks.dueIndex("move(1, 0, 0)", () -> x.move(1, 0, 0));
            Checks.dueIndex("move(MAX, 0, 0)", () -> x.move(MAX, 0, 0));
            Checks.due("move(0, 0, 0)", 0, x.move(0, 0, 0));
        });
        Checks.edge(34, "exceptions come ahead of reasons", () -> {
            CaptionLoom x = Checks.loaded(design);
            Checks.dueIndex("move(1, 99, 99)", () -> x.move(1, 99, 99));
            Checks.due("move(0, 99, 99)", -5, x.move(0, 99, 99));
        });
        int[][] edges = {{-1, 1, 0, 1}, {10, 1, 9, 1}, {4, -1, 4, 0}, {4, 4, 4, 3}, {MAX, 1, 8, 1}, {MIN, 1, 1, 1},
            {4, MAX, 4, 2}, {4, MIN, 4, 1}, {MAX - 1, 1, 4, 1}, {4, MAX - 3, 4, 1}};
        for (int[] e : edges) {
            Checks.edge(34, "5: not to " + e[0] + ", " + e[1] + ", but to " + e[2] + ", " + e[3], () -> {
                CaptionLoom x = Checks.loaded(design);
                Checks.due("off the loom", -5, x.move(0, e[0], e[1]));
                Checks.due("X", 4, x.caption(0, 2));
                Checks.due("Y", 1, x.caption(0, 3));
                Checks.due("acts", 0, x.account(0));
                Checks.due("refusals", 1, x.account(5));
                Checks.due("on the loom", 0, x.move(0, e[2], e[3]));
                Checks.due("X", e[2], x.caption(0, 2));
                Checks.due("Y", e[3], x.caption(0, 3));
            });
        }
        Checks.edge(34, "5: from the rear, of two letters", () -> {
            CaptionLoom x = Checks.loaded("loom 12 8;caption ii rear at 0 0 in 1;");
            Checks.due("to the warp 6", -5, x.move(0, 6, 0));
            Checks.due("to the warp 5", 0, x.move(0, 5, 0));
            Checks.due("design at the column 0", 1, x.design(0, 0));
        });
    }

    private static void moveOnAnother() {
        String two = "loom 16 12;caption i at 0 0 in 1;caption i at 8 5 in 2;";
        int[][] edges = {{6, 5, 5, 5}, {10, 5, 11, 5}, {8, 1, 8, 0}, {6, 1, 6, 0}};
        for (int[] e : edges) {
            Checks.edge(34, "6: not to " + e[0] + ", " + e[1] + ", but to " + e[2] + ", " + e[3], () -> {
                CaptionLoom x = Checks.loaded(two);
                Checks.due("on another one", -6, x.move(0, e[0], e[1]));
                Checks.due("X", 0, x.caption(0, 2));
                Checks.due("acts", 0, x.account(0));
                Checks.due("refusals", 1, x.account(6));
                Checks.due("beside it", 0, x.move(0, e[2], e[3]));
                Checks.due("X", e[2], x.caption(0, 2));
            });
        }
        Checks.edge(34, "6: on the one ahead of it", () -> {
            CaptionLoom x = Checks.loaded(two);
            Checks.due("on another one", -6, x.move(1, 2, 4));
            Checks.due("beside it", 0, x.move(1, 3, 4));
        });
        Checks.edge(34, "where it is itself is no other one", () -> {
            CaptionLoom x = Checks.loaded(two);
            Checks.due("by one column", 0, x.move(1, 9, 5));
            Checks.due("by one row", 0, x.move(1, 9, 6));
        });
        Checks.edge(34, "also to where it is: it is an act", () -> {
            CaptionLoom x = Checks.loaded(two);
            Checks.due("move", 0, x.move(1, 8, 5));
            Checks.due("acts", 1, x.account(0));
            Checks.due("to undo", 1, x.count(8));
        });
        Checks.edge(34, "5 comes ahead of 6", () -> {
            CaptionLoom x = Checks.loaded("loom 12 8;caption i at 0 0 in 1;caption i at 9 3 in 2;");
            Checks.due("off the loom", -5, x.move(0, 10, 3));
            Checks.due("off the loom", -5, x.move(0, 9, 4));
            Checks.due("on another one", -6, x.move(0, 9, 3));
        });
        Checks.edge(34, "the numbers stay", () -> {
            CaptionLoom x = Checks.loaded(two);
            x.move(0, 12, 0);
            Checks.due("COLOUR of 0", 1, x.caption(0, 4));
            Checks.due("COLOUR of 1", 2, x.caption(1, 4));
        });
    }

    private static void moveMistakes() {
        Checks.edge(34, "returns all mistakes then, also those that are not seen", () -> {
            CaptionLoom x = Checks.loaded("loom 12 8;caption i at 0 0 in 1;delay 30;");
            x.pass(2, 0, 0);
            x.weave(5, false);
            Checks.due("to where it is", 1, x.move(0, 0, 0));
            // the old place and the new one, and the cell of warp 0
            Checks.due("away", 9 + 9 + 1, x.move(0, 4, 0));
            Checks.due("with its lower two rows on finished ones", 9 + 4 + 1, x.move(0, 4, 3));
        });
    }

    private static void setStock() {
        Checks.edge(35, "no colour -1", () -> {
            CaptionLoom x = new CaptionLoom();
            Checks.dueIndex("setStock(-1, 1)", () -> x.setStock(-1, 1));
            Checks.dueIndex("setStock(MIN, 1)", () -> x.setStock(MIN, 1));
            Checks.due("setStock(0, 1)", 500, x.setStock(0, 1));
            Checks.due("STOCK", 1, x.colour(0, 0));
        });
        Checks.edge(35, "no colour 7", () -> {
            CaptionLoom x = new CaptionLoom();
            Checks.dueIndex("setStock(7, 1)", () -> x.setStock(7, 1));
            Checks.dueIndex("setStock(MAX, 1)", () -> x.setStock(MAX, 1));
            Checks.due("setStock(6, 1)", 500, x.setStock(6, 1));
            Checks.due("STOCK", 1, x.colour(6, 0));
            Checks.due("STOCK of another", 500, x.colour(5, 0));
        });
        Checks.edge(35, "stock is 0 at least", () -> {
            CaptionLoom x = new CaptionLoom();
            Checks.dueArgument("setStock(1, -1)", () -> x.setStock(1, -1));
            Checks.dueArgument("setStock(1, MIN)", () -> x.setStock(1, MIN));
            Checks.due("STOCK", 500, x.colour(1, 0));
            Checks.due("setStock(1, 0)", 500, x.setStock(1, 0));
            Checks.due("STOCK", 0, x.colour(1, 0));
        });
        Checks.edge(35, "stock is 9999 at most", () -> {
            CaptionLoom x = new CaptionLoom();
            Checks.dueArgument("setStock(1, 10000)", () -> x.setStock(1, 10000));
            Checks.dueArgument("setStock(1, MAX)", () -> x.setStock(1, MAX));
            Checks.due("setStock(1, 9999)", 500, x.setStock(1, 9999));
            Checks.due("setStock(1, 3)", 9999, x.setStock(1, 3));
        });
        Checks.edge(35, "of two exceptions the first in the list", () -> {
            CaptionLoom x = new CaptionLoom();
            Checks.dueIndex("setStock(7, -1)", () -> x.setStock(7, -1));
            Checks.dueIndex("setStock(-1, 10000)", () -> x.setStock(-1, 10000));
            Checks.due("acts", 0, x.account(0));
        });
        Checks.edge(35, "to what it is: it is an act", () -> {
            CaptionLoom x = new CaptionLoom();
            Checks.due("setStock", 500, x.setStock(1, 500));
            Checks.due("acts", 1, x.account(0));
            Checks.due("undo", 0, x.undo());
        });
    }

    private static void setDelay() {
        Checks.edge(36, "delay is 0 at least", () -> {
            CaptionLoom x = new CaptionLoom();
            Checks.dueArgument("setDelay(-1)", () -> x.setDelay(-1));
            Checks.dueArgument("setDelay(MIN)", () -> x.setDelay(MIN));
            Checks.due("setDelay(0)", 4, x.setDelay(0));
            Checks.due("DELAY", 0, x.count(5));
        });
        Checks.edge(36, "delay is 30 at most", () -> {
            CaptionLoom x = new CaptionLoom();
            Checks.dueArgument("setDelay(31)", () -> x.setDelay(31));
            Checks.dueArgument("setDelay(MAX)", () -> x.setDelay(MAX));
            Checks.due("setDelay(30)", 4, x.setDelay(30));
            Checks.due("DELAY", 30, x.count(5));
        });
        Checks.edge(36, "7: it is so already", () -> {
            CaptionLoom x = new CaptionLoom();
            Checks.due("setDelay(4)", -7, x.setDelay(4));
            Checks.due("refusals", 1, x.account(7));
            Checks.due("acts", 0, x.account(0));
            Checks.due("to undo", 0, x.count(8));
            Checks.due("setDelay(5)", 4, x.setDelay(5));
            Checks.due("setDelay(5)", -7, x.setDelay(5));
            Checks.due("setDelay(4)", 5, x.setDelay(4));
        });
        Checks.edge(36, "from 0, the answer 0 is no refusal", () -> {
            CaptionLoom x = Checks.loaded("loom 12 8;delay 0;");
            Checks.due("setDelay(0)", -7, x.setDelay(0));
            Checks.due("setDelay(1)", 0, x.setDelay(1));
            Checks.due("acts", 1, x.account(0));
        });
    }
}
