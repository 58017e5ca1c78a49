/** The edges of promises 21 to 26: what would be. */
public final class WouldEdgeTest {
    private static final String LETTER_I = "loom 12 8;caption i at 0 0 in 1;";

    public static void main(String[] args) {
        lasts();
        lastsWithRows();
        minutesRows();
        minutes();
        wouldErrRow();
        wouldErr();
        placeArguments();
        placeOnTheLoom();
        placeBesideOthers();
        placeAboveRows();
        share();
        meanJoins();
        Checks.endEdges(21, 26);
    }

    private static void lasts() {
        Checks.edge(21, "no row: a STOCK that is one cell too little", () -> {
            CaptionLoom x = Checks.loaded("loom 12 8;stock 0 11;");
            Checks.due("from 11", 0, x.lasts());
            x.setStock(0, 12);
            Checks.due("from 12", 1, x.lasts());
        });
        Checks.edge(21, "all rows: the STOCK is just enough", () -> {
            CaptionLoom x = Checks.loaded("loom 12 8;stock 0 95;");
            Checks.due("from 95", 7, x.lasts());
            x.setStock(0, 96);
            Checks.due("from 96", 8, x.lasts());
            x.setStock(0, 9999);
            Checks.due("from 9999", 8, x.lasts());
        });
        Checks.edge(21, "one after the other: the rows share the STOCK", () -> {
            // i takes 3, 1, 1, 1, 3 cells of 1, from the bottom up
            CaptionLoom x = Checks.loaded(LETTER_I);
            int[] due = {0, 0, 0, 1, 2, 3, 4, 4, 4, 8};
            for (int stock = 0; stock <= 9; stock++) {
                x.setStock(1, stock);
                Checks.due("from " + stock, due[stock], x.lasts());
            }
        });
        Checks.edge(21, "it ends at the first row that cannot be woven", () -> {
            CaptionLoom x = Checks.loaded("loom 12 8;caption i at 0 2 in 1;stock 1 2;");
            Checks.due("two rows of the ground", 2, x.lasts());
            x.setStock(1, 3);
            Checks.due("and one", 3, x.lasts());
        });
        Checks.edge(21, "a STOCK of 0 that is not needed", () -> {
            CaptionLoom x = Checks.loaded("loom 12 8;stock 1 0;");
            Checks.due("lasts", 8, x.lasts());
            CaptionLoom y = Checks.loaded("loom 12 8;caption i at 0 0 in 6;stock 1 0;");
            Checks.due("lasts", 8, y.lasts());
            y.setStock(6, 0);
            Checks.due("lasts", 0, y.lasts());
        });
    }

    private static void lastsWithRows() {
        Checks.edge(21, "0 if no row is left", () -> {
            CaptionLoom x = new CaptionLoom();
            x.weave(7, false);
            Checks.due("of one", 1, x.lasts());
            x.weave(1, false);
            Checks.due("of none", 0, x.lasts());
        });
        Checks.edge(21, "a full open row takes nothing", () -> {
            CaptionLoom x = new CaptionLoom();
            x.pass(1, 0, 11);
            x.setStock(0, 0);
            Checks.due("the open row", 1, x.lasts());
            x.setStock(0, 12);
            Checks.due("and one", 2, x.lasts());
        });
        Checks.edge(21, "the open row takes what its empty cells need", () -> {
            CaptionLoom x = new CaptionLoom();
            x.pass(1, 0, 3);
            x.setStock(0, 7);
            Checks.due("from 7", 0, x.lasts());
            x.setStock(0, 8);
            Checks.due("from 8", 1, x.lasts());
        });
        Checks.edge(21, "woven right, not blind", () -> {
            // the warps 9 to 11 are the columns 0 to 2, where the row 0 of l lies
            CaptionLoom x = Checks.loaded("loom 12 8;caption l at 0 0 in 1;stock 1 0;");
            x.pass(2, 0, 2);
            Checks.due("with the other end full", 0, x.lasts());
            x.pass(2, 9, 11);
            Checks.due("with its end full", 1, x.lasts());
        });
        Checks.edge(21, "as many rows as weave takes, and no more", () -> {
            CaptionLoom x = Checks.loaded(LETTER_I + "stock 0 50;");
            int rows = x.lasts();
            // the rows take 9, 11, 11, 11, 9 cells of the ground: 42 of 4 rows, 51 of 5
            Checks.due("lasts", 4, rows);
            Checks.due("one more", -2, x.weave(rows + 1, false));
            Checks.due("so many", 0, x.weave(rows, false));
            Checks.due("lasts then", 0, x.lasts());
        });
    }

    private static void minutesRows() {
        Checks.edge(22, "rows are 0 at least", () -> {
            CaptionLoom x = new CaptionLoom();
            Checks.dueArgument("minutes(-1)", () -> x.minutes(-1));
            Checks.dueArgument("minutes(MIN)", () -> x.minutes(Integer.MIN_VALUE));
            Checks.due("minutes(0)", 0, x.minutes(0));
            Checks.due("minutes(1)", 3, x.minutes(1));
        });
        Checks.edge(22, "rows are 30 at most", () -> {
            CaptionLoom x = Checks.loaded("loom 8 30;");
            Checks.dueArgument("minutes(31)", () -> x.minutes(31));
            Checks.dueArgument("minutes(MAX)", () -> x.minutes(Integer.MAX_VALUE));
            Checks.due("minutes(29)", 58, x.minutes(29));
            Checks.due("minutes(30)", 60, x.minutes(30));
        });
        Checks.edge(22, "all that are left, if they are fewer", () -> {
            CaptionLoom x = new CaptionLoom();
            x.weave(6, false);
            Checks.due("one of two", 3, x.minutes(1));
            Checks.due("both", 6, x.minutes(2));
            Checks.due("both of three", 6, x.minutes(3));
            Checks.due("both of thirty", 6, x.minutes(30));
            x.weave(2, false);
            Checks.due("none of one", 0, x.minutes(1));
        });
    }

    private static void minutes() {
        Checks.edge(22, "each row is converted to int", () -> {
            // 9 * 0.25 = 2.25, 11 * 0.25 = 2.75
            Checks.due("of 9 columns", 8, Checks.loaded("loom 9 6;").minutes(4));
            Checks.due("of 11 columns", 8, Checks.loaded("loom 11 6;").minutes(4));
            Checks.due("of 12 columns", 12, Checks.loaded("loom 12 6;").minutes(4));
        });
        Checks.edge(22, "whatever the STOCK is", () -> {
            CaptionLoom x = Checks.loaded("loom 12 8;stock 0 0;");
            Checks.due("minutes(8)", 24, x.minutes(8));
        });
        Checks.edge(22, "with what the open row has", () -> {
            // two joins around the cell of warp 5, and one between the columns 2 and 3
            CaptionLoom x = Checks.loaded(LETTER_I);
            Checks.due("empty, 1 join", 4, x.minutes(1));
            x.pass(2, 5, 5);
            Checks.due("3 joins", 8, x.minutes(1));
            x.pass(0, 0, 11);
            Checks.due("no join", 3, x.minutes(1));
        });
        Checks.edge(22, "nothing changes", () -> {
            CaptionLoom x = Checks.loaded(LETTER_I);
            x.minutes(30);
            Checks.due("account", 0, x.account(8));
            Checks.due("rows", 0, x.count(2));
        });
    }

    private static void wouldErrRow() {
        Checks.edge(23, "no row -1, and none at HEIGHT", () -> {
            CaptionLoom x = Checks.loaded("loom 12 8;caption i at 0 0 in 1;caption l rear at 0 3 in 2;");
            Checks.dueIndex("wouldErr(-1)", () -> x.wouldErr(-1));
            Checks.dueIndex("wouldErr(8)", () -> x.wouldErr(8));
            Checks.dueIndex("wouldErr(MAX)", () -> x.wouldErr(Integer.MAX_VALUE));
            Checks.due("wouldErr(0)", 6, x.wouldErr(0));
            Checks.due("wouldErr(7)", 2, x.wouldErr(7));
        });
    }

    private static void wouldErr() {
        Checks.edge(23, "0 without captions", () -> Checks.due("wouldErr(0)", 0, new CaptionLoom().wouldErr(0)));
        Checks.edge(23, "0 for what is the same from both sides", () -> {
            CaptionLoom x = Checks.loaded(
                "loom 11 6;caption i at 4 0 in 1;caption l at 0 0 in 1;caption j at 8 0 in 1;");
            for (int row = 0; row < 6; row++) {
                Checks.due("wouldErr(" + row + ")", 0, x.wouldErr(row));
            }
            x.drop(2);
            Checks.due("with the l alone", 2, x.wouldErr(1));
        });
        Checks.edge(23, "another colour in the other half is a mistake on both sides", () -> {
            CaptionLoom x = Checks.loaded("loom 11 6;caption l at 0 0 in 1;caption j at 8 0 in 2;");
            Checks.due("wouldErr(1)", 2, x.wouldErr(1));
            Checks.due("wouldErr(0)", 6, x.wouldErr(0));
        });
        Checks.edge(23, "the most mistakes: all cells of the row", () -> {
            CaptionLoom x = Checks.loaded("loom 8 6;caption z at 0 0 in 1;caption z at 4 0 in 2;");
            Checks.due("wouldErr(0)", 8, x.wouldErr(0));
        });
        Checks.edge(23, "the column in the middle is its own mirror image", () -> {
            CaptionLoom x = Checks.loaded("loom 9 6;caption l at 4 0 in 1;");
            Checks.due("of the middle", 0, x.wouldErr(1));
            x.move(0, 3, 0);
            Checks.due("beside it", 2, x.wouldErr(1));
        });
        Checks.edge(23, "if it was empty: what it has does not matter", () -> {
            CaptionLoom x = Checks.loaded(LETTER_I);
            x.pass(3, 0, 11);
            Checks.due("the open row", 6, x.wouldErr(0));
            x.beat();
            Checks.due("a finished row", 6, x.wouldErr(0));
            x.weave(7, false);
            Checks.due("the last row", 0, x.wouldErr(7));
        });
    }

    private static void placeArguments() {
        Checks.edge(24, "letters are 1 at least", () -> {
            CaptionLoom x = new CaptionLoom();
            Checks.dueArgument("place(0, 0)", () -> x.place(0, 0));
            Checks.dueArgument("place(MIN, 0)", () -> x.place(Integer.MIN_VALUE, 0));
            Checks.due("place(1, 0)", 0, x.place(1, 0));
        });
        Checks.edge(24, "letters are 8 at most", () -> {
            CaptionLoom x = Checks.loaded("loom 40 8;");
            Checks.dueArgument("place(9, 0)", () -> x.place(9, 0));
            Checks.dueArgument("place(MAX, 0)", () -> x.place(Integer.MAX_VALUE, 0));
            Checks.due("place(8, 0)", 0, x.place(8, 0));
        });
        Checks.edge(24, "side is 0 or 1", () -> {
            CaptionLoom x = new CaptionLoom();
            Checks.dueArgument("place(1, -1)", () -> x.place(1, -1));
            Checks.dueArgument("place(1, 2)", () -> x.place(1, 2));
            Checks.due("place(1, 0)", 0, x.place(1, 0));
            Checks.due("place(1, 1)", 0, x.place(1, 1));
        });
    }

    private static void placeOnTheLoom() {
        Checks.edge(24, "NONE if no box of so many letters lies on the loom", () -> {
            CaptionLoom x = Checks.loaded("loom 11 8;");
            Checks.due("three letters", 0, x.place(3, 0));
            Checks.due("four letters", -1, x.place(4, 0));
            CaptionLoom y = Checks.loaded("loom 10 8;");
            Checks.due("three letters", -1, y.place(3, 1));
            Checks.due("two letters", 0, y.place(2, 1));
        });
        Checks.edge(24, "the box of 8 letters takes 31 columns", () -> {
            Checks.due("of 31", 0, Checks.loaded("loom 31 6;").place(8, 0));
            Checks.due("of 30", -1, Checks.loaded("loom 30 6;").place(8, 0));
        });
        Checks.edge(24, "the greatest X", () -> {
            CaptionLoom x = Checks.loaded("loom 14 6;caption ii at 0 0 in 1;");
            Checks.due("a box of one at the columns 7 to 9", 7, x.place(1, 0));
            Checks.due("a box of two at the columns 7 to 13", 7, x.place(2, 0));
            x.move(0, 1, 0);
            Checks.due("a box of two at the columns 8 to 14", -1, x.place(2, 0));
        });
        Checks.edge(24, "the greatest Y", () -> {
            CaptionLoom x = Checks.loaded("loom 8 10;caption i at 2 0 in 1;");
            Checks.due("two letters at the rows 5 to 9", 500, x.place(2, 0));
            x.move(0, 2, 1);
            Checks.due("two letters at the rows 6 to 10", -1, x.place(2, 0));
        });
    }

    private static void placeBesideOthers() {
        Checks.edge(24, "the least Y, of several the least X", () -> {
            CaptionLoom x = Checks.loaded("loom 12 12;caption i at 0 0 in 1;");
            Checks.due("beside it", 3, x.place(1, 0));
            x.move(0, 1, 0);
            Checks.due("on its right", 4, x.place(1, 0));
            x.move(0, 3, 0);
            Checks.due("on its left", 0, x.place(1, 0));
        });
        Checks.edge(24, "from the rear X is a warp", () -> {
            CaptionLoom x = Checks.loaded("loom 12 12;caption i at 9 0 in 1;");
            Checks.due("beside it", 3, x.place(1, 1));
            x.move(0, 8, 0);
            Checks.due("beside it", 4, x.place(1, 1));
            Checks.due("from the front", 0, x.place(1, 0));
        });
        Checks.edge(24, "no cell in common with another one, between its letters either", () -> {
            CaptionLoom x = Checks.loaded("loom 12 12;caption iii at 0 0 in 1;");
            Checks.due("above it", 500, x.place(1, 0));
            x.move(0, 1, 0);
            Checks.due("above it", 500, x.place(1, 0));
        });
        Checks.edge(24, "however many captions there are", () -> {
            CaptionLoom x = Checks.loaded("loom 40 6;");
            for (int i = 0; i < 8; i++) {
                Checks.added(x, "i", 0, 3 * i, 0, 1);
            }
            Checks.due("captions", 8, x.count(4));
            Checks.due("place(1, 0)", 24, x.place(1, 0));
            Checks.due("place(4, 0)", 24, x.place(4, 0));
            Checks.due("place(5, 0)", -1, x.place(5, 0));
        });
        Checks.edge(24, "it is where add takes it", () -> {
            CaptionLoom x = Checks.loaded("loom 12 12;caption i at 0 0 in 1;");
            int place = x.place(2, 1);
            Checks.due("place", 0, place);
            Checks.due("add", 1, Checks.added(x, "ab", 1, place % 100, place / 100, 1));
            Checks.due("place then", 500, x.place(2, 1));
        });
    }

    private static void placeAboveRows() {
        Checks.edge(24, "no row that is finished", () -> {
            CaptionLoom x = new CaptionLoom();
            x.pass(1, 0, 11);
            Checks.due("the open row is not", 0, x.place(1, 0));
            x.beat();
            Checks.due("with one", 100, x.place(1, 0));
        });
        Checks.edge(24, "NONE if fewer than five rows are left", () -> {
            CaptionLoom x = new CaptionLoom();
            x.weave(3, false);
            Checks.due("with five", 300, x.place(1, 0));
            x.weave(1, false);
            Checks.due("with four", -1, x.place(1, 0));
            x.weave(4, false);
            Checks.due("with none", -1, x.place(1, 0));
        });
    }

    private static void share() {
        Checks.edge(25, "no colour -1", () -> {
            CaptionLoom x = new CaptionLoom();
            x.beat();
            Checks.dueIndex("share(-1)", () -> x.share(-1));
            Checks.dueIndex("share(MIN)", () -> x.share(Integer.MIN_VALUE));
            Checks.due("share(0)", 1.0, x.share(0));
        });
        Checks.edge(25, "no colour 7", () -> {
            CaptionLoom x = new CaptionLoom();
            x.pass(6, 0, 2);
            x.beat();
            Checks.dueIndex("share(7)", () -> x.share(7));
            Checks.dueIndex("share(MAX)", () -> x.share(Integer.MAX_VALUE));
            Checks.due("share(6)", 0.25, x.share(6));
        });
        Checks.edge(25, "0 without such rows", () -> {
            CaptionLoom x = new CaptionLoom();
            x.pass(0, 0, 11);
            Checks.due("open", 0.0, x.share(0));
            x.beat();
            Checks.due("finished", 1.0, x.share(0));
            x.unpick(1);
            Checks.due("unpicked", 0.0, x.share(0));
        });
        Checks.edge(25, "the open row does not count", () -> {
            CaptionLoom x = new CaptionLoom();
            x.beat();
            x.pass(1, 0, 11);
            Checks.due("open", 0.0, x.share(1));
            x.beat();
            Checks.due("finished", 0.5, x.share(1));
        });
        Checks.edge(25, "both converted to float", () -> {
            CaptionLoom x = new CaptionLoom();
            x.pass(1, 0, 3);
            x.beat();
            Checks.due("a third", 4f / 12f, x.share(1));
            Checks.due("two thirds", 8f / 12f, x.share(0));
        });
    }

    private static void meanJoins() {
        Checks.edge(26, "0.0 without such rows", () -> {
            CaptionLoom x = new CaptionLoom();
            x.pass(1, 0, 0);
            Checks.due("open", 0.0, x.meanJoins());
            x.beat();
            Checks.due("finished", 1.0, x.meanJoins());
            x.unpick(1);
            Checks.due("unpicked", 0.0, x.meanJoins());
        });
        Checks.edge(26, "the open row does not count", () -> {
            CaptionLoom x = new CaptionLoom();
            x.beat();
            x.pass(1, 0, 0);
            x.pass(0, 1, 11);
            Checks.due("open", 0.0, x.meanJoins());
            x.beat();
            Checks.due("finished", 0.5, x.meanJoins());
        });
        Checks.edge(26, "both converted to double", () -> {
            CaptionLoom x = new CaptionLoom();
            x.pass(1, 0, 0);
            x.weave(3, false);
            Checks.due("a third", 1.0 / 3.0, x.meanJoins());
        });
        Checks.edge(26, "all rows, the most joins", () -> {
            CaptionLoom x = Checks.loaded("loom 8 6;");
            for (int row = 0; row < 6; row++) {
                for (int warp = 0; warp < 8; warp += 2) {
                    x.pass(1, warp, warp);
                }
                x.beat();
            }
            Checks.due("meanJoins", 7.0, x.meanJoins());
        });
    }
}
