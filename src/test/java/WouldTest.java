/** Promises 21 to 26: what would be. */
public final class WouldTest {
    private static final String LETTER_I = "loom 12 8;caption i at 0 0 in 1;";

    public static void main(String[] args) {
        lasts();
        minutes();
        wouldErr();
        place();
        share();
        meanJoins();
        nothingChanges();
        Checks.end();
    }

    private static void lasts() {
        CaptionLoom x = new CaptionLoom();
        int[][] due = {{96, 8}, {95, 7}, {30, 2}, {24, 2}, {23, 1}, {11, 0}, {0, 0}, {9999, 8}};
        for (int[] d : due) {
            x.setStock(0, d[0]);
            Checks.due("lasts from " + d[0], d[1], x.lasts());
        }
        x.pass(1, 0, 3);
        x.setStock(0, 32);
        Checks.due("lasts with a begun row", 3, x.lasts());
        x.setStock(0, 31);
        Checks.due("lasts with a begun row", 2, x.lasts());
        x.setStock(0, 500);
        x.setStock(1, 0);
        Checks.due("lasts without what is not needed", 8, x.lasts());
        x.weave(8, false);
        Checks.due("lasts with all rows", 0, x.lasts());
        CaptionLoom y = Checks.loaded(LETTER_I + "stock 1 4;");
        Checks.due("lasts by a colour of the design", 2, y.lasts());
        y.setStock(1, 9);
        Checks.due("lasts", 8, y.lasts());
        y.setStock(1, 8);
        Checks.due("lasts", 4, y.lasts());
        y.setStock(0, 21);
        Checks.due("lasts by the ground", 2, y.lasts());
    }

    private static void minutes() {
        CaptionLoom x = Checks.loaded(LETTER_I);
        int[] due = {0, 4, 10, 16, 22, 26, 29, 32, 35, 35};
        for (int rows = 0; rows < due.length; rows++) {
            Checks.due("minutes(" + rows + ")", due[rows], x.minutes(rows));
        }
        Checks.due("minutes(30)", 35, x.minutes(30));
        x.setStock(0, 0);
        Checks.due("minutes without a STOCK", 35, x.minutes(30));
        x.pass(2, 2, 2);
        Checks.due("minutes with a begun row", 8, x.minutes(1));
        x.setStock(0, 500);
        x.weave(7, false);
        Checks.due("minutes of the last row", 3, x.minutes(2));
        x.beat();
        Checks.due("minutes of no row", 0, x.minutes(30));
        Checks.dueArgument("minutes(31)", () -> x.minutes(31));
        Checks.dueArgument("minutes(-1)", () -> x.minutes(-1));
        Checks.due("a width of 11 takes 2", 2, Checks.loaded("loom 11 6;").minutes(1));
        Checks.due("each row is rounded", 4, Checks.loaded("loom 11 6;").minutes(2));
    }

    private static void wouldErr() {
        CaptionLoom x = Checks.loaded(LETTER_I + "caption x rear at 1 3 in 2;");
        int[] due = {6, 2, 2, 4, 8, 2, 4, 4};
        for (int row = 0; row < 8; row++) {
            Checks.due("wouldErr(" + row + ")", due[row], x.wouldErr(row));
        }
        x.pass(1, 0, 11);
        x.beat();
        Checks.due("wouldErr of a finished row", 6, x.wouldErr(0));
        x.pass(5, 0, 11);
        Checks.due("wouldErr of the open row", 2, x.wouldErr(1));
        x.unpick(1);
        for (int row = 0; row < 8; row++) {
            Checks.due("mistakes, woven blind", due[row], x.weave(1, true));
        }
        Checks.dueIndex("wouldErr(8)", () -> x.wouldErr(8));
        Checks.dueIndex("wouldErr(-1)", () -> x.wouldErr(-1));
        CaptionLoom y = Checks.loaded("loom 11 6;caption bd at 0 0 in 1;caption a rear at 0 1 in 3;");
        Checks.due("wouldErr of a second colour there", 4, y.wouldErr(1));
    }

    private static void place() {
        CaptionLoom x = Checks.loaded("loom 12 12;caption ab at 1 0 in 1;");
        Checks.due("place(1, 0)", 8, x.place(1, 0));
        Checks.due("place(1, 1)", 0, x.place(1, 1));
        Checks.due("place(2, 0)", 500, x.place(2, 0));
        Checks.due("place(2, 1)", 500, x.place(2, 1));
        Checks.due("place(3, 0)", 500, x.place(3, 0));
        Checks.due("place(4, 0)", -1, x.place(4, 0));
        Checks.due("place(8, 1)", -1, x.place(8, 1));
        x.weave(1, false);
        Checks.due("place above a finished row", 108, x.place(1, 0));
        x.pass(1, 0, 11);
        Checks.due("place on the open row", 108, x.place(1, 0));
        x.weave(6, false);
        Checks.due("place above seven rows", 700, x.place(1, 0));
        x.weave(1, false);
        Checks.due("place above eight rows", -1, x.place(1, 0));
        Checks.dueArgument("place(0, 0)", () -> x.place(0, 0));
        Checks.dueArgument("place(9, 0)", () -> x.place(9, 0));
        Checks.dueArgument("place(1, 2)", () -> x.place(1, 2));
        Checks.dueArgument("place(1, -1)", () -> x.place(1, -1));
        CaptionLoom y = Checks.loaded("loom 40 10;");
        for (int i = 0; i < 8; i++) {
            Checks.due("place of the next", 3 * i, y.place(1, 1));
            Checks.due("the next", i, Checks.added(y, "a", 1, y.place(1, 1), 0, 1));
        }
        Checks.due("place with 8 captions", 24, y.place(1, 1));
        Checks.due("place with 8 captions from the front", 0, y.place(1, 0));
        Checks.due("place of 8 letters", 500, y.place(8, 0));
    }

    private static void share() {
        CaptionLoom x = Checks.loaded(LETTER_I);
        Checks.due("share without rows", 0.0, x.share(0));
        x.weave(5, false);
        Checks.due("share", 9f / 60f, x.share(1));
        Checks.due("share of the ground", 51f / 60f, x.share(0));
        x.pass(1, 0, 11);
        Checks.due("the open row does not count", 9f / 60f, x.share(1));
        x.beat();
        Checks.due("share", 21f / 72f, x.share(1));
        Checks.dueIndex("share(7)", () -> x.share(7));
        Checks.dueIndex("share(-1)", () -> x.share(-1));
    }

    private static void meanJoins() {
        CaptionLoom x = Checks.loaded(LETTER_I);
        Checks.due("meanJoins without rows", 0.0, x.meanJoins());
        x.weave(3, false);
        x.pass(3, 0, 0);
        Checks.due("meanJoins", 5.0 / 3.0, x.meanJoins());
        x.weave(4, false);
        Checks.due("meanJoins", 9.0 / 7.0, x.meanJoins());
    }

    private static void nothingChanges() {
        CaptionLoom x = Checks.loaded(LETTER_I);
        x.pass(2, 0, 3);
        for (int i = 0; i < 3; i++) {
            x.lasts();
            x.minutes(30);
            x.wouldErr(0);
            x.place(2, 1);
        }
        Checks.due("acts", 1, x.account(0));
        Checks.due("undo", 1, x.count(8));
        Checks.due("rows", 0, x.count(2));
        Checks.due("cells", 4, x.count(3));
        Checks.due("stock", 500, x.colour(0, 0));
        Checks.due("minutes", 0, x.account(8));
        Checks.due("captions", 1, x.count(4));
        Checks.due("caption's X", 0, x.caption(0, 2));
    }
}
