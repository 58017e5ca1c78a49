/** Promises 27 to 36: the acts, what they answer, and the reasons for which they are refused. */
public final class ActTest {
    public static void main(String[] args) {
        pass();
        beat();
        weave();
        weaveRefused();
        unpick();
        unpickStock();
        look();
        add();
        addThrows();
        drop();
        move();
        setStock();
        setDelay();
        refusedChangesNothing();
        Checks.end();
    }

    private static void pass() {
        CaptionLoom x = new CaptionLoom();
        Checks.due("pass", 499, x.pass(6, 0, 0));
        Checks.due("cell at warp 0", 6, x.cell(11, 0));
        Checks.due("pass", 488, x.pass(0, 0, 11));
        Checks.due("the other colour is gone", 499, x.colour(6, 0));
        Checks.due("the ground is no empty cell", 0, x.cell(11, 0));
        Checks.due("cells of the open row", 12, x.count(3));
        Checks.due("in place of this very one", 486, x.pass(0, 4, 5));
        x.setStock(3, 3);
        Checks.due("refused", -2, x.pass(3, 0, 3));
        Checks.due("a cell after what is refused", 0, x.cell(11, 0));
        Checks.due("all that there is", 0, x.pass(3, 9, 11));
        Checks.due("cell at warp 11", 3, x.cell(0, 0));
        Checks.due("cell at warp 8", 0, x.cell(3, 0));
        x.weave(8, false);
        Checks.due("no row is open", -1, x.pass(1, 0, 0));
        Checks.due("no row is open comes ahead of the STOCK", -1, x.pass(3, 0, 0));
        Checks.dueIndex("pass(7, 0, 0)", () -> x.pass(7, 0, 0));
        Checks.dueIndex("pass(-1, 0, 0)", () -> x.pass(-1, 0, 0));
        Checks.dueIndex("pass(0, -1, 0)", () -> x.pass(0, -1, 0));
        Checks.dueIndex("pass(0, 12, 0)", () -> x.pass(0, 12, 0));
        Checks.dueIndex("pass(0, 0, 12)", () -> x.pass(0, 0, 12));
        Checks.dueIndex("pass(0, 5, -1)", () -> x.pass(0, 5, -1));
        Checks.dueArgument("pass(0, 5, 4)", () -> x.pass(0, 5, 4));
        Checks.due("account of pass", 2, x.account(1));
    }

    private static void beat() {
        CaptionLoom x = Checks.loaded("loom 12 8;caption i at 0 0 in 1;");
        x.pass(1, 11, 11);
        x.pass(2, 0, 1);
        x.setStock(0, 8);
        Checks.due("refused", -2, x.beat());
        Checks.due("cells of the open row", 3, x.count(3));
        x.setStock(0, 9);
        Checks.due("mistakes of the row", 4, x.beat());
        Checks.due("ground", 0, x.colour(0, 0));
        Checks.due("cell", 0, x.cell(2, 0));
        Checks.due("rows", 1, x.count(2));
        x.pass(1, 0, 11);
        Checks.due("a full row needs no ground", 11, x.beat());
        x.setStock(0, 500);
        for (int row = 2; row < 8; row++) {
            Checks.due("mistakes of row " + row, row == 4 ? 3 : row < 4 ? 1 : 0, x.beat());
        }
        Checks.due("no row is open", -1, x.beat());
        x.setStock(0, 0);
        Checks.due("no row is open", -1, x.beat());
    }

    private static void weave() {
        CaptionLoom x = Checks.loaded("loom 12 8;caption i at 0 0 in 1;");
        x.pass(2, 0, 0);
        x.pass(2, 11, 11);
        Checks.due("mistakes of what was passed", 2, x.weave(2, false));
        Checks.due("passed cell", 2, x.cell(0, 0));
        Checks.due("right cell", 1, x.cell(1, 0));
        Checks.due("right cell", 1, x.cell(1, 1));
        Checks.due("ground", 0, x.cell(5, 1));
        Checks.due("stock", 497, x.colour(1, 0));
        Checks.due("ground's stock", 481, x.colour(0, 0));
        x.pass(3, 1, 1);
        Checks.due("mistakes of what is woven blind", 2, x.weave(1, true));
        Checks.due("passed cell", 3, x.cell(10, 2));
        Checks.due("blind ground", 0, x.cell(1, 2));
        Checks.due("mistakes of rows woven blind", 2 + 6 + 0, x.weave(3, true));
        Checks.due("blind cell", 1, x.cell(10, 3));
        Checks.due("blind cells", 1, x.cell(9, 4));
        Checks.due("rows", 6, x.count(2));
        Checks.due("the rest", 0, x.weave(2, true));
        Checks.dueArgument("weave(0, true)", () -> x.weave(0, true));
        Checks.dueArgument("weave(31, false)", () -> x.weave(31, false));
        Checks.dueArgument("weave(-5, false)", () -> x.weave(-5, false));
        CaptionLoom y = Checks.loaded("loom 40 30;stock 0 1200;");
        Checks.due("30 rows", 0, y.weave(30, false));
        Checks.due("all the ground", 0, y.colour(0, 0));
    }

    private static void weaveRefused() {
        CaptionLoom x = Checks.loaded("loom 12 8;caption i at 0 0 in 1;stock 1 4;stock 0 95;");
        Checks.due("too many rows come first", -3, x.weave(9, false));
        Checks.due("too little of a colour", -2, x.weave(3, false));
        Checks.due("too little for all of them", -2, x.weave(8, false));
        Checks.due("rows", 0, x.count(2));
        Checks.due("enough", 0, x.weave(2, false));
        Checks.due("nothing is left", 0, x.colour(1, 0));
        x.setStock(0, 11);
        x.pass(0, 0, 10);
        Checks.due("the colour is for the cell of warp 10", 0, x.colour(0, 0));
        Checks.due("too little of the ground", -2, x.weave(1, false));
        Checks.due("blind it is the ground, too", -2, x.weave(1, true));
        x.setStock(0, 1);
        Checks.due("enough", 1, x.weave(1, true));
        x.weave(5, false);
        Checks.due("too little", 3, x.count(2));
        x.setStock(1, 500);
        x.setStock(0, 500);
        x.weave(5, false);
        Checks.due("no row is open", -3, x.weave(1, false));
        Checks.due("account", 2, x.account(3));
    }

    private static void unpick() {
        CaptionLoom x = new CaptionLoom();
        Checks.due("nothing to unpick", 0, x.unpick(0));
        Checks.due("it is an act", 1, x.account(0));
        Checks.due("refused", -3, x.unpick(1));
        x.weave(3, false);
        x.pass(5, 0, 4);
        Checks.due("open row alone", 5, x.unpick(0));
        Checks.due("empty", 0, x.count(3));
        Checks.due("rows", 3, x.count(2));
        x.pass(5, 0, 4);
        x.look();
        Checks.due("LOOKED", 3, x.count(6));
        Checks.due("with the open row", 29, x.unpick(2));
        Checks.due("rows", 1, x.count(2));
        Checks.due("LOOKED", 1, x.count(6));
        Checks.due("empty cell", -1, x.cell(0, 1));
        Checks.due("empty cell", -1, x.cell(11, 3));
        Checks.due("cell that stays", 0, x.cell(0, 0));
        Checks.due("cells of the open row", 0, x.count(3));
        Checks.due("refused", -3, x.unpick(2));
        x.weave(7, false);
        Checks.due("no row is open", 0, x.unpick(0));
        Checks.due("still", 8, x.count(2));
        Checks.due("all", 96, x.unpick(8));
        Checks.dueArgument("unpick(31)", () -> x.unpick(31));
        Checks.dueArgument("unpick(-1)", () -> x.unpick(-1));
        CaptionLoom y = Checks.loaded("loom 40 30;stock 0 1200;");
        y.weave(30, false);
        Checks.due("unpick(30)", 1200, y.unpick(30));
        Checks.due("half comes back", 600, y.colour(0, 0));
    }

    private static void unpickStock() {
        CaptionLoom x = new CaptionLoom();
        x.pass(1, 0, 2);
        x.beat();
        x.pass(1, 0, 1);
        x.pass(2, 1, 1);
        x.pass(3, 5, 5);
        Checks.due("taken out", 12 + 3, x.unpick(1));
        Checks.due("half of 3 + 1", 497, x.colour(1, 0));
        Checks.due("half of 1", 499, x.colour(2, 0));
        Checks.due("half of 1", 499, x.colour(3, 0));
        Checks.due("half of 9", 495, x.colour(0, 0));
        x.pass(1, 0, 9);
        x.setStock(1, 9996);
        x.unpick(0);
        Checks.due("9999 at most", 9999, x.colour(1, 0));
        x.pass(1, 0, 5);
        x.setStock(1, 9996);
        x.unpick(0);
        Checks.due("9999 as it comes", 9999, x.colour(1, 0));
    }

    private static void look() {
        CaptionLoom x = Checks.loaded("loom 12 8;caption i at 0 0 in 1;delay 2;");
        Checks.due("nothing to look at", 0, x.look());
        x.weave(5, true);
        Checks.due("seen by the delay", 6 + 2 + 2, x.mistakes(1));
        Checks.due("seen by looking", 2 + 6, x.look());
        Checks.due("LOOKED", 5, x.count(6));
        Checks.due("no more", 0, x.look());
        x.pass(4, 0, 0);
        Checks.due("the open row is not seen", 0, x.look());
        x.beat();
        x.weave(2, false);
        Checks.due("seen by the delay already", 0, x.look());
        Checks.due("acts", 9, x.account(0));
    }

    private static void add() {
        CaptionLoom x = Checks.loaded("loom 12 12;");
        x.weave(3, false);
        Checks.due("add", 0, Checks.added(x, "abc", 1, 1, 0, 6));
        Checks.due("the text is empty", 0, x.truncate(0));
        Checks.dueArgument("the text is empty", () -> x.truncate(1));
        int[] due = {3, 1, 1, 0, 6, 3, 0, 0, 0, 2 + 2 + 3 + 3 + 3 + 1 + 2 + 3 + 1};
        for (int what = 0; what <= 9; what++) {
            Checks.due("caption(0, " + what + ")", due[what], x.caption(0, what));
        }
        Checks.due("behind the others", 1, Checks.added(x, "a", 0, 0, 5, 1));
        Checks.due("beside", 2, Checks.added(x, "a", 1, 0, 5, 1));
        Checks.due("too high", -5, Checks.added(x, "a", 0, 0, 8, 1));
        Checks.due("too far", -5, Checks.added(x, "a", 0, 10, 5, 1));
        Checks.due("too far at the rear", -5, Checks.added(x, "ab", 1, 6, 5, 1));
        Checks.due("too low", -5, Checks.added(x, "a", 0, 4, -1, 1));
        Checks.due("too far left", -5, Checks.added(x, "a", 0, -1, 5, 1));
        Checks.due("far off", -5, Checks.added(x, "a", 0, Integer.MAX_VALUE, Integer.MAX_VALUE, 1));
        Checks.due("far off", -5, Checks.added(x, "a", 1, Integer.MIN_VALUE, Integer.MIN_VALUE, 1));
        Checks.due("the text is empty after what is refused", 0, x.truncate(0));
        Checks.dueArgument("the text is empty", () -> x.truncate(1));
        Checks.due("on another", -6, Checks.added(x, "a", 0, 2, 7, 1));
        Checks.due("on another of the rear", -6, Checks.added(x, "a", 0, 7, 7, 1));
        Checks.due("on the gap of another", -6, Checks.added(x, "a", 0, 0, 4, 1));
        Checks.due("three", 3, x.count(4));
        Checks.due("refused for the loom", 7, x.account(5));
        Checks.due("refused for another", 3, x.account(6));
        CaptionLoom y = Checks.loaded("loom 40 30;");
        for (int i = 0; i < 8; i++) {
            Checks.due("add", i, Checks.added(y, "z", 0, 4 * i, 0, 1));
        }
        Checks.due("there are 8", -4, Checks.added(y, "a", 0, 20, 9, 1));
        Checks.due("8 come ahead of the place", -4, Checks.added(y, "a", 0, 99, 0, 1));
        Checks.due("account", 2, y.account(4));
    }

    private static void wrongAdd(String text, int side, int colour) {
        CaptionLoom x = new CaptionLoom();
        Checks.say(x, text);
        Checks.dueArgument("add of '" + text + "'", () -> x.add(side, 0, 0, colour));
        Checks.due("no caption", 0, x.count(4));
        Checks.due("no act", 0, x.account(0));
        Checks.due("the text is empty after what throws", 0, x.truncate(0));
        Checks.dueArgument("the text is empty", () -> x.truncate(1));
    }

    private static void addThrows() {
        wrongAdd("a", 2, 1);
        wrongAdd("a", -1, 1);
        wrongAdd("a", 0, 0);
        wrongAdd("a", 1, 7);
        wrongAdd("", 0, 1);
        wrongAdd("abcdefghi", 0, 1);
        wrongAdd(" a", 0, 1);
        wrongAdd("a\n", 0, 1);
        wrongAdd("aB", 0, 1);
        wrongAdd("a1", 0, 1);
        wrongAdd("`", 0, 1);
        wrongAdd("{", 0, 1);
        CaptionLoom x = new CaptionLoom();
        Checks.say(x, "abcdefgh");
        Checks.due("8 letters are a word", -5, x.add(0, 0, 0, 1));
        Checks.dueArgument("a word comes ahead of the place", () -> x.add(0, 99, 0, 1));
    }

    private static void drop() {
        CaptionLoom x = Checks.loaded("loom 20 8;caption a at 0 0 in 1;caption bc rear at 0 0 in 2;caption d at 4 0 in 3;");
        Checks.due("drop", 2, x.drop(0));
        Checks.due("numbers become less", 2, x.caption(0, 0));
        Checks.due("its side", 1, x.caption(0, 1));
        Checks.due("its colour", 2, x.caption(0, 4));
        Checks.due("its letter", 3, x.letter(0, 1, 0));
        Checks.due("the last one", 4, x.letter(1, 0, 0));
        Checks.due("its place", 4, x.caption(1, 2));
        Checks.dueIndex("drop(2)", () -> x.drop(2));
        Checks.dueIndex("drop(-1)", () -> x.drop(-1));
        Checks.due("drop the last", 1, x.drop(1));
        Checks.due("drop", 0, x.drop(0));
        Checks.dueIndex("drop(0)", () -> x.drop(0));
        Checks.due("design", 0, x.design(19, 0));
        Checks.due("acts", 3, x.account(0));
    }

    private static void move() {
        CaptionLoom x = Checks.loaded("loom 12 12;caption i at 0 0 in 1;caption i rear at 0 0 in 2;");
        x.weave(5, false);
        Checks.due("to where it is", 0, x.move(0, 0, 0));
        Checks.due("it is an act", 2, x.account(0));
        Checks.due("by one column", 4 + 6, x.move(0, 1, 0));
        Checks.due("X", 1, x.caption(0, 2));
        Checks.due("on another", -6, x.move(0, 7, 3));
        Checks.due("on another", -6, x.move(1, 6, 4));
        Checks.due("beside", 9 + 9, x.move(0, 6, 0));
        Checks.due("too high", -5, x.move(0, 6, 8));
        Checks.due("above", 9, x.move(0, 6, 7));
        Checks.due("Y", 7, x.caption(0, 3));
        Checks.due("off", -5, x.move(0, 10, 7));
        Checks.due("off", -5, x.move(1, -1, 0));
        Checks.due("off", -5, x.move(1, 0, -1));
        Checks.due("far off", -5, x.move(1, Integer.MAX_VALUE, Integer.MIN_VALUE));
        Checks.due("to the far end", 9 + 9, x.move(1, 9, 0));
        Checks.due("and back", 9, x.move(1, 0, 0));
        Checks.dueIndex("move(2, 0, 0)", () -> x.move(2, 0, 0));
        Checks.dueIndex("move(-1, 0, 0)", () -> x.move(-1, 0, 0));
        Checks.due("refused", 5, x.account(5));
        Checks.due("refused", 2, x.account(6));
    }

    private static void setStock() {
        CaptionLoom x = new CaptionLoom();
        Checks.due("STOCK before", 500, x.setStock(0, 9999));
        Checks.due("STOCK before", 9999, x.setStock(0, 0));
        Checks.due("STOCK before", 0, x.setStock(0, 0));
        Checks.due("STOCK of another", 500, x.setStock(6, 1));
        Checks.due("acts, also without a change", 4, x.account(0));
        Checks.dueIndex("setStock(7, 0)", () -> x.setStock(7, 0));
        Checks.dueIndex("setStock(-1, -1)", () -> x.setStock(-1, -1));
        Checks.dueArgument("setStock(0, -1)", () -> x.setStock(0, -1));
        Checks.dueArgument("setStock(0, 10000)", () -> x.setStock(0, 10000));
        Checks.due("STOCK stays", 0, x.colour(0, 0));
    }

    private static void setDelay() {
        CaptionLoom x = new CaptionLoom();
        Checks.due("DELAY before", 4, x.setDelay(30));
        Checks.due("DELAY", 30, x.count(5));
        Checks.due("it is so already", -7, x.setDelay(30));
        Checks.due("DELAY before", 30, x.setDelay(0));
        Checks.dueArgument("setDelay(31)", () -> x.setDelay(31));
        Checks.dueArgument("setDelay(-1)", () -> x.setDelay(-1));
        Checks.due("refused", 1, x.account(7));
        Checks.due("acts", 2, x.account(0));
        Checks.due("DELAY stays", 0, x.count(5));
    }

    private static void refusedChangesNothing() {
        CaptionLoom x = Checks.loaded("loom 12 8;caption i at 0 0 in 1;stock 1 0;");
        x.pass(2, 0, 1);
        x.undo();
        x.pass(3, 0, 1);
        Checks.say(x, "look;");
        x.pass(1, 0, 0);
        x.weave(3, false);
        x.unpick(1);
        x.move(0, 99, 0);
        x.setDelay(4);
        Checks.due("acts to undo", 1, x.count(8));
        Checks.due("cells", 2, x.count(3));
        Checks.due("the text stays", 5, x.truncate(5));
        Checks.due("stock", 498, x.colour(3, 0));
        Checks.due("play", 1, x.play());
    }
}
