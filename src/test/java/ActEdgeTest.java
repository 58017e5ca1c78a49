/** The edges of promises 27 to 31: pass, beat, weave, unpick and look. */
public final class ActEdgeTest {
    private static final String LETTER_I = "loom 12 8;caption i at 0 0 in 1;";

    public static void main(String[] args) {
        passArguments();
        passRefused();
        passTakes();
        beat();
        beatRefused();
        weaveRows();
        weaveRefused();
        weaveCells();
        unpickRows();
        unpickCells();
        unpickStock();
        unpickLooked();
        look();
        Checks.endEdges(27, 31);
    }

    private static void passArguments() {
        Checks.edge(27, "no colour -1", () -> {
            CaptionLoom x = new CaptionLoom();
            Checks.dueIndex("pass(-1, 0, 0)", () -> x.pass(-1, 0, 0));
            Checks.dueIndex("pass(MIN, 0, 0)", () -> x.pass(Integer.MIN_VALUE, 0, 0));
            Checks.due("pass(0, 0, 0)", 499, x.pass(0, 0, 0));
        });
        Checks.edge(27, "no colour 7", () -> {
            CaptionLoom x = new CaptionLoom();
            Checks.dueIndex("pass(7, 0, 0)", () -> x.pass(7, 0, 0));
            Checks.dueIndex("pass(MAX, 0, 0)", () -> x.pass(Integer.MAX_VALUE, 0, 0));
            Checks.due("pass(6, 0, 0)", 499, x.pass(6, 0, 0));
        });
        Checks.edge(27, "no first warp -1", () -> {
            CaptionLoom x = new CaptionLoom();
            Checks.dueIndex("pass(1, -1, 0)", () -> x.pass(1, -1, 0));
            Checks.dueIndex("pass(1, MIN, MAX)", () -> x.pass(1, Integer.MIN_VALUE, Integer.MAX_VALUE));
            Checks.due("pass(1, 0, 0)", 499, x.pass(1, 0, 0));
        });
        Checks.edge(27, "no last warp at WIDTH", () -> {
            CaptionLoom x = new CaptionLoom();
            Checks.dueIndex("pass(1, 11, 12)", () -> x.pass(1, 11, 12));
            Checks.dueIndex("pass(1, 0, MAX)", () -> x.pass(1, 0, Integer.MAX_VALUE));
            Checks.due("pass(1, 11, 11)", 499, x.pass(1, 11, 11));
        });
        Checks.edge(27, "the warps of the narrowest and the widest loom", () -> {
            CaptionLoom x = Checks.loaded("loom 8 6;");
            Checks.dueIndex("pass(1, 7, 8)", () -> x.pass(1, 7, 8));
            Checks.due("pass(1, 0, 7)", 492, x.pass(1, 0, 7));
            CaptionLoom y = Checks.loaded("loom 40 6;");
            Checks.dueIndex("pass(1, 39, 40)", () -> y.pass(1, 39, 40));
            Checks.due("pass(1, 0, 39)", 460, y.pass(1, 0, 39));
        });
        Checks.edge(27, "to is from or greater", () -> {
            CaptionLoom x = new CaptionLoom();
            Checks.dueArgument("pass(1, 5, 4)", () -> x.pass(1, 5, 4));
            Checks.dueArgument("pass(1, 11, 0)", () -> x.pass(1, 11, 0));
            Checks.due("pass(1, 5, 5)", 499, x.pass(1, 5, 5));
        });
        Checks.edge(27, "of two exceptions the first in the list", () -> {
            CaptionLoom x = new CaptionLoom();
            Checks.dueIndex("pass(7, 5, 4)", () -> x.pass(7, 5, 4));
            Checks.dueIndex("pass(1, 12, 4)", () -> x.pass(1, 12, 4));
            Checks.dueIndex("pass(1, 5, -1)", () -> x.pass(1, 5, -1));
        });
        Checks.edge(27, "exceptions come ahead of reasons", () -> {
            CaptionLoom x = Checks.loaded("loom 12 8;stock 1 0;");
            x.weave(8, false);
            Checks.dueIndex("pass(7, 0, 0)", () -> x.pass(7, 0, 0));
            Checks.dueArgument("pass(1, 5, 4)", () -> x.pass(1, 5, 4));
            Checks.due("pass(1, 5, 5)", -1, x.pass(1, 5, 5));
        });
    }

    private static void passRefused() {
        Checks.edge(27, "1: no row is open", () -> {
            CaptionLoom x = new CaptionLoom();
            x.weave(7, false);
            Checks.due("with one row left", 499, x.pass(1, 0, 0));
            x.beat();
            Checks.due("with none", -1, x.pass(1, 0, 0));
            Checks.due("refusals", 1, x.account(1));
        });
        Checks.edge(27, "2: the STOCK is less than the number of these warps", () -> {
            CaptionLoom x = Checks.loaded("loom 12 8;stock 1 5;");
            Checks.due("six warps", -2, x.pass(1, 3, 8));
            Checks.due("five warps", 0, x.pass(1, 4, 8));
            Checks.due("one warp", -2, x.pass(1, 0, 0));
            Checks.due("refusals", 2, x.account(2));
        });
        Checks.edge(27, "2: what the warps have does not count", () -> {
            CaptionLoom x = Checks.loaded("loom 12 8;stock 1 5;");
            Checks.due("four warps", 1, x.pass(1, 0, 3));
            Checks.due("this very colour again", -2, x.pass(1, 0, 1));
            Checks.due("one of them", 0, x.pass(1, 0, 0));
        });
        Checks.edge(27, "1 comes ahead of 2", () -> {
            CaptionLoom x = Checks.loaded("loom 12 8;stock 1 0;");
            Checks.due("a row is open", -2, x.pass(1, 0, 0));
            x.weave(8, false);
            Checks.due("no row is open", -1, x.pass(1, 0, 0));
        });
        Checks.edge(27, "what is refused changes nothing", () -> {
            CaptionLoom x = Checks.loaded("loom 12 8;stock 1 5;");
            Checks.due("six warps", -2, x.pass(1, 0, 5));
            Checks.due("cell", -1, x.cell(11, 0));
            Checks.due("STOCK", 5, x.colour(1, 0));
            Checks.due("to undo", 0, x.count(8));
            Checks.due("acts", 0, x.account(0));
        });
    }

    private static void passTakes() {
        Checks.edge(27, "from the first to the last warp, no other", () -> {
            CaptionLoom x = new CaptionLoom();
            Checks.due("pass", 498, x.pass(1, 3, 4));
            Checks.due("warp 2", -1, x.cell(9, 0));
            Checks.due("warp 3", 1, x.cell(8, 0));
            Checks.due("warp 4", 1, x.cell(7, 0));
            Checks.due("warp 5", -1, x.cell(6, 0));
            Checks.due("the row above", -1, x.cell(8, 1));
        });
        Checks.edge(27, "in place of another colour, which is gone", () -> {
            CaptionLoom x = new CaptionLoom();
            x.pass(1, 0, 1);
            Checks.due("pass", 499, x.pass(2, 1, 1));
            Checks.due("the other's STOCK", 498, x.colour(1, 0));
            Checks.due("cells", 2, x.count(3));
        });
        Checks.edge(27, "of this very one it takes 1 again", () -> {
            CaptionLoom x = new CaptionLoom();
            Checks.due("pass", 498, x.pass(1, 0, 1));
            Checks.due("pass", 497, x.pass(1, 1, 1));
            Checks.due("cells", 2, x.count(3));
        });
    }

    private static void beat() {
        Checks.edge(28, "gives the ground to all empty cells", () -> {
            CaptionLoom x = new CaptionLoom();
            x.pass(1, 1, 10);
            Checks.due("mistakes", 10, x.beat());
            Checks.due("STOCK", 498, x.colour(0, 0));
            Checks.due("the first cell", 0, x.cell(0, 0));
            Checks.due("the last cell", 0, x.cell(11, 0));
            Checks.due("between them", 1, x.cell(5, 0));
        });
        Checks.edge(28, "an empty row", () -> {
            CaptionLoom x = Checks.loaded(LETTER_I);
            Checks.due("mistakes", 3, x.beat());
            Checks.due("STOCK", 488, x.colour(0, 0));
        });
        Checks.edge(28, "a full row", () -> {
            CaptionLoom x = Checks.loaded("loom 12 8;stock 0 0;");
            x.pass(1, 0, 11);
            Checks.due("mistakes", 12, x.beat());
            Checks.due("STOCK", 0, x.colour(0, 0));
            Checks.due("finished rows", 1, x.count(2));
        });
        Checks.edge(28, "its mistakes are those of this row", () -> {
            CaptionLoom x = new CaptionLoom();
            x.pass(1, 0, 2);
            Checks.due("the first row", 3, x.beat());
            Checks.due("the second row", 0, x.beat());
        });
    }

    private static void beatRefused() {
        Checks.edge(28, "1: no row is open", () -> {
            CaptionLoom x = new CaptionLoom();
            x.weave(7, false);
            Checks.due("with one row left", 0, x.beat());
            Checks.due("with none", -1, x.beat());
            Checks.due("finished rows", 8, x.count(2));
            Checks.due("acts", 2, x.account(0));
        });
        Checks.edge(28, "2: the STOCK of the ground is too little", () -> {
            CaptionLoom x = Checks.loaded("loom 12 8;stock 0 11;");
            Checks.due("11 for 12", -2, x.beat());
            Checks.due("no cell", 0, x.count(3));
            Checks.due("STOCK", 11, x.colour(0, 0));
            x.pass(1, 4, 4);
            Checks.due("11 for 11", 1, x.beat());
            Checks.due("STOCK", 0, x.colour(0, 0));
        });
        Checks.edge(28, "1 comes ahead of 2", () -> {
            CaptionLoom x = Checks.loaded("loom 12 8;stock 0 96;");
            x.weave(8, false);
            Checks.due("no row, and no STOCK", -1, x.beat());
            x.unpick(1);
            x.setStock(0, 0);
            Checks.due("no STOCK", -2, x.beat());
        });
    }

    private static void weaveRows() {
        Checks.edge(29, "rows are 1 at least", () -> {
            CaptionLoom x = new CaptionLoom();
            Checks.dueArgument("weave(0, false)", () -> x.weave(0, false));
            Checks.dueArgument("weave(-1, true)", () -> x.weave(-1, true));
            Checks.dueArgument("weave(MIN, true)", () -> x.weave(Integer.MIN_VALUE, true));
            Checks.due("weave(1, false)", 0, x.weave(1, false));
            Checks.due("finished rows", 1, x.count(2));
        });
        Checks.edge(29, "rows are 30 at most", () -> {
            CaptionLoom x = Checks.loaded("loom 8 30;");
            Checks.dueArgument("weave(31, false)", () -> x.weave(31, false));
            Checks.dueArgument("weave(MAX, true)", () -> x.weave(Integer.MAX_VALUE, true));
            Checks.due("weave(30, false)", 0, x.weave(30, false));
            Checks.due("finished rows", 30, x.count(2));
        });
        Checks.edge(29, "exceptions come ahead of reasons", () -> {
            CaptionLoom x = new CaptionLoom();
            x.weave(8, false);
            Checks.dueArgument("weave(31, false)", () -> x.weave(31, false));
            Checks.due("weave(30, false)", -3, x.weave(30, false));
        });
    }

    private static void weaveRefused() {
        Checks.edge(29, "3: so many rows, with the open one, are not left", () -> {
            CaptionLoom x = new CaptionLoom();
            Checks.due("nine of eight", -3, x.weave(9, false));
            x.weave(5, false);
            x.pass(1, 0, 0);
            Checks.due("four of three", -3, x.weave(4, false));
            Checks.due("three of three", 1, x.weave(3, false));
            Checks.due("one of none", -3, x.weave(1, true));
            Checks.due("refusals", 3, x.account(3));
        });
        Checks.edge(29, "2: the STOCK of the ground is too little for all of them", () -> {
            CaptionLoom x = Checks.loaded("loom 12 8;stock 0 23;");
            Checks.due("23 for 24", -2, x.weave(2, false));
            Checks.due("no row", 0, x.count(2));
            Checks.due("STOCK", 23, x.colour(0, 0));
            x.setStock(0, 24);
            Checks.due("24 for 24", 0, x.weave(2, false));
            Checks.due("STOCK", 0, x.colour(0, 0));
        });
        Checks.edge(29, "2: the STOCK of some other colour is too little for all of them", () -> {
            CaptionLoom x = Checks.loaded("loom 12 8;caption i at 0 0 in 6;stock 6 8;");
            Checks.due("8 for 9", -2, x.weave(5, false));
            x.setStock(6, 9);
            Checks.due("9 for 9", 0, x.weave(5, false));
            Checks.due("STOCK", 0, x.colour(6, 0));
        });
        Checks.edge(29, "2: a cell that has a colour needs none", () -> {
            CaptionLoom x = Checks.loaded("loom 12 8;stock 0 0;");
            x.pass(1, 1, 11);
            Checks.due("one empty cell", -2, x.weave(1, false));
            x.pass(1, 0, 0);
            Checks.due("none", 12, x.weave(1, true));
        });
        Checks.edge(29, "2: woven blind, by the design of the column w", () -> {
            // the warp 11 is the column 0, which gets the design of the column 11
            CaptionLoom x = Checks.loaded("loom 12 8;caption l at 0 0 in 1;stock 1 0;");
            x.pass(2, 0, 2);
            Checks.due("right", -2, x.weave(1, false));
            Checks.due("blind", 6, x.weave(1, true));
        });
        Checks.edge(29, "3 comes ahead of 2", () -> {
            CaptionLoom x = Checks.loaded("loom 12 8;stock 0 0;");
            Checks.due("nine rows", -3, x.weave(9, false));
            Checks.due("eight rows", -2, x.weave(8, false));
            Checks.due("refused for the rows", 1, x.account(3));
            Checks.due("refused for the STOCK", 1, x.account(2));
        });
    }

    private static void weaveCells() {
        Checks.edge(29, "right: the first column and the last one", () -> {
            CaptionLoom x = Checks.loaded("loom 12 8;caption l at 0 0 in 1;caption j at 9 0 in 2;");
            Checks.due("mistakes", 0, x.weave(2, false));
            Checks.due("column 0", 1, x.cell(0, 1));
            Checks.due("column 11", 2, x.cell(11, 1));
        });
        Checks.edge(29, "blind: the first column and the last one", () -> {
            CaptionLoom x = Checks.loaded("loom 12 8;caption l at 0 0 in 1;caption j at 9 0 in 2;");
            Checks.due("mistakes of both rows", 6 + 2, x.weave(2, true));
            Checks.due("column 0", 2, x.cell(0, 1));
            Checks.due("column 11", 1, x.cell(11, 1));
        });
        Checks.edge(29, "blind: of an odd WIDTH the middle is right", () -> {
            CaptionLoom x = Checks.loaded("loom 9 6;caption l at 4 0 in 1;");
            Checks.due("the bottom of l", 4, x.weave(1, true));
            Checks.due("above it", 0, x.weave(1, true));
            Checks.due("the middle", 1, x.cell(4, 1));
        });
        Checks.edge(29, "the mistakes are those of these rows, with what was passed", () -> {
            CaptionLoom x = new CaptionLoom();
            x.pass(1, 0, 0);
            x.beat();
            x.pass(1, 0, 1);
            Checks.due("two", 2, x.weave(2, false));
            Checks.due("of all rows", 3, x.mistakes(0));
        });
        Checks.edge(29, "one act, however many rows", () -> {
            CaptionLoom x = new CaptionLoom();
            x.weave(8, false);
            Checks.due("acts", 1, x.account(0));
            Checks.due("undo", 0, x.undo());
            Checks.due("finished rows", 0, x.count(2));
        });
    }

    private static void unpickRows() {
        Checks.edge(30, "rows are 0 at least", () -> {
            CaptionLoom x = new CaptionLoom();
            Checks.dueArgument("unpick(-1)", () -> x.unpick(-1));
            Checks.dueArgument("unpick(MIN)", () -> x.unpick(Integer.MIN_VALUE));
            Checks.due("unpick(0)", 0, x.unpick(0));
        });
        Checks.edge(30, "rows are 30 at most", () -> {
            CaptionLoom x = Checks.loaded("loom 8 30;");
            x.weave(30, false);
            Checks.dueArgument("unpick(31)", () -> x.unpick(31));
            Checks.dueArgument("unpick(MAX)", () -> x.unpick(Integer.MAX_VALUE));
            Checks.due("unpick(30)", 240, x.unpick(30));
            Checks.due("finished rows", 0, x.count(2));
        });
        Checks.edge(30, "exceptions come ahead of reasons", () -> {
            CaptionLoom x = new CaptionLoom();
            Checks.dueArgument("unpick(31)", () -> x.unpick(31));
            Checks.due("unpick(30)", -3, x.unpick(30));
            Checks.due("refusals", 1, x.account(3));
        });
        Checks.edge(30, "3: so many rows are not finished", () -> {
            CaptionLoom x = new CaptionLoom();
            Checks.due("one of none", -3, x.unpick(1));
            x.weave(2, false);
            x.pass(1, 0, 11);
            Checks.due("three of two", -3, x.unpick(3));
            Checks.due("the open row stays", 12, x.count(3));
            Checks.due("STOCK stays", 488, x.colour(1, 0));
            Checks.due("two of two", 36, x.unpick(2));
            Checks.due("one of none", -3, x.unpick(1));
        });
    }

    private static void unpickCells() {
        Checks.edge(30, "0: the open row alone", () -> {
            CaptionLoom x = new CaptionLoom();
            x.weave(2, false);
            x.pass(1, 0, 3);
            Checks.due("cells", 4, x.unpick(0));
            Checks.due("finished rows", 2, x.count(2));
            Checks.due("a finished cell", 0, x.cell(0, 1));
            Checks.due("an open cell", -1, x.cell(11, 2));
        });
        Checks.edge(30, "0: an empty open row, and none", () -> {
            CaptionLoom x = new CaptionLoom();
            Checks.due("empty", 0, x.unpick(0));
            x.weave(8, false);
            Checks.due("none", 0, x.unpick(0));
            Checks.due("finished rows", 8, x.count(2));
            Checks.due("the last row", 0, x.cell(0, 7));
            Checks.due("acts", 3, x.account(0));
        });
        Checks.edge(30, "out of the open row and the last finished rows; the lowest is the open one then", () -> {
            CaptionLoom x = new CaptionLoom();
            x.weave(3, false);
            x.pass(1, 0, 0);
            Checks.due("cells", 13, x.unpick(1));
            Checks.due("finished rows", 2, x.count(2));
            Checks.due("cells of the open row", 0, x.count(3));
            Checks.due("the row below", 0, x.cell(11, 1));
            Checks.due("the open row", -1, x.cell(11, 2));
            Checks.due("the one that was open", -1, x.cell(11, 3));
            Checks.due("pass", 498, x.pass(1, 0, 0));
            Checks.due("in the open row", 1, x.cell(11, 2));
        });
        Checks.edge(30, "the last row of a loom that has no open one", () -> {
            CaptionLoom x = new CaptionLoom();
            x.weave(8, false);
            Checks.due("cells", 12, x.unpick(1));
            Checks.due("finished rows", 7, x.count(2));
            Checks.due("beat", 0, x.beat());
        });
    }

    private static void unpickStock() {
        for (int cells = 1; cells <= 4; cells++) {
            int taken = cells;
            Checks.edge(30, "half of " + cells + ", rounded down, comes back", () -> {
                CaptionLoom x = new CaptionLoom();
                x.pass(1, 0, taken - 1);
                Checks.due("cells", taken, x.unpick(0));
                Checks.due("STOCK", 500 - taken + taken / 2, x.colour(1, 0));
            });
        }
        Checks.edge(30, "half of all that was taken out, not of each row", () -> {
            CaptionLoom x = new CaptionLoom();
            x.pass(1, 0, 0);
            x.beat();
            x.pass(1, 0, 0);
            Checks.due("cells", 13, x.unpick(1));
            Checks.due("half of 1 + 1", 499, x.colour(1, 0));
            Checks.due("half of 11", 494, x.colour(0, 0));
        });
        Checks.edge(30, "of each colour", () -> {
            CaptionLoom x = Checks.loaded("loom 14 6;");
            for (int colour = 0; colour <= 6; colour++) {
                x.pass(colour, 2 * colour, 2 * colour + 1);
            }
            Checks.due("cells", 14, x.unpick(0));
            for (int colour = 0; colour <= 6; colour++) {
                Checks.due("STOCK of " + colour, 499, x.colour(colour, 0));
            }
        });
        Checks.edge(30, "a colour in whose place another one was passed does not come back", () -> {
            CaptionLoom x = new CaptionLoom();
            x.pass(1, 0, 3);
            x.pass(2, 0, 3);
            Checks.due("cells", 4, x.unpick(0));
            Checks.due("the one that is gone", 496, x.colour(1, 0));
            Checks.due("the other one", 498, x.colour(2, 0));
        });
        for (int stock : new int[] {9994, 9995, 9996, 9999}) {
            Checks.edge(30, "the STOCK is at most 9999 then, from " + stock, () -> {
                CaptionLoom x = new CaptionLoom();
                x.pass(1, 0, 9);
                x.setStock(1, stock);
                x.unpick(0);
                Checks.due("with 5 more", 9999, x.colour(1, 0));
            });
        }
        Checks.edge(30, "the STOCK is just less than 9999 then", () -> {
            CaptionLoom x = new CaptionLoom();
            x.pass(1, 0, 9);
            x.setStock(1, 9993);
            x.unpick(0);
            Checks.due("with 5 more", 9998, x.colour(1, 0));
        });
    }

    private static void unpickLooked() {
        Checks.edge(30, "LOOKED becomes the number of finished rows, if that is less", () -> {
            CaptionLoom x = new CaptionLoom();
            x.weave(3, false);
            x.look();
            x.unpick(0);
            Checks.due("with 3 rows", 3, x.count(6));
            x.unpick(1);
            Checks.due("with 2 rows", 2, x.count(6));
            x.weave(2, false);
            x.unpick(1);
            Checks.due("with 3 rows", 2, x.count(6));
        });
    }

    private static void look() {
        Checks.edge(31, "LOOKED becomes the number of finished rows: none", () -> {
            CaptionLoom x = new CaptionLoom();
            x.pass(1, 0, 11);
            Checks.due("look", 0, x.look());
            Checks.due("LOOKED", 0, x.count(6));
        });
        Checks.edge(31, "LOOKED becomes the number of finished rows: all", () -> {
            CaptionLoom x = new CaptionLoom();
            x.pass(1, 0, 1);
            x.beat();
            x.weave(6, false);
            x.pass(1, 0, 0);
            x.beat();
            Checks.due("look: the last row, by DELAY row 0 is seen already", 1, x.look());
            Checks.due("LOOKED", 8, x.count(6));
            Checks.due("seen", 3, x.mistakes(1));
        });
        Checks.edge(31, "that were not seen before: by DELAY", () -> {
            CaptionLoom x = Checks.loaded("loom 12 8;delay 1;");
            x.pass(1, 0, 0);
            x.beat();
            x.pass(1, 0, 2);
            x.beat();
            Checks.due("row 0 is seen", 1, x.mistakes(1));
            Checks.due("look", 3, x.look());
        });
        Checks.edge(31, "that were not seen before: by looking", () -> {
            CaptionLoom x = new CaptionLoom();
            x.pass(1, 0, 0);
            x.beat();
            Checks.due("look", 1, x.look());
            Checks.due("look again", 0, x.look());
            x.pass(1, 0, 2);
            x.beat();
            Checks.due("look at one more", 3, x.look());
        });
        Checks.edge(31, "it is done, also if it changed nothing", () -> {
            CaptionLoom x = new CaptionLoom();
            x.look();
            x.look();
            Checks.due("acts", 2, x.account(0));
            Checks.due("to undo", 2, x.count(8));
        });
    }
}
