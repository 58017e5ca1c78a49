import java.util.function.ToIntFunction;

/**
 * That a call that is refused, or throws, changes nothing but the accounts, and the text buffer of an add; that a
 * call that only asks changes nothing; of each promise that has such a call.
 */
public final class NothingChangesEdgeTest {
    private static final String DESIGN = "loom 12 6;caption bc at 0 0 in 1;caption d rear at 0 1 in 5;stock 3 7;";

    public static void main(String[] args) {
        refused();
        refusedWithAllRows();
        throwsIndex();
        throwsArgument();
        throwsState();
        onlyAsks();
        Checks.end();
    }

    private interface Call {
        void on(CaptionLoom loom);
    }

    /** A loom that has some of everything, with a text, an error, an output and a saved state. */
    private static CaptionLoom prepared(int rows) {
        CaptionLoom x = Checks.loaded(DESIGN);
        x.weave(2, true);
        x.look();
        x.weave(rows - 2, false);
        if (rows < 6) {
            x.pass(3, 2, 4);
        }
        x.save(0);
        Checks.played(x, "weave 0;");
        x.writeCaption(0);
        Checks.say(x, "look;");
        return x;
    }

    private static void dueSame(CaptionLoom x, int acts, boolean isTextLeft) {
        Checks.due("acts", acts, x.account(0));
        Checks.due("to undo", acts, x.count(8));
        Checks.due("errorCode", 2, x.errorCode());
        Checks.due("errorPosition", 6, x.errorPosition());
        Checks.due("the end of the output", -1, x.output(2));
        Checks.due("the length of the text", isTextLeft ? 5 : 0, isTextLeft ? x.truncate(5) : x.truncate(0));
        Checks.dueArgument("a longer text", () -> x.truncate(isTextLeft ? 6 : 1));
        Checks.dueState("restore(1)", () -> x.restore(1));
        Checks.due("play of the text", isTextLeft ? 1 : 0, x.play());
        Checks.due("undo", isTextLeft ? acts : acts - 1, x.undo());
    }

    private static void dueRefused(int promise, int reason, int rows, String name, ToIntFunction<CaptionLoom> act) {
        Checks.edge(promise, "what is refused changes nothing but the accounts: " + name, () -> {
            CaptionLoom x = prepared(rows);
            String before = Checks.told(x);
            int minutes = x.account(8);
            Checks.due(name, -reason, act.applyAsInt(x));
            for (int i = 1; i <= 7; i++) {
                Checks.due("refusals with the reason " + i, i == reason ? 1 : 0, x.account(i));
            }
            Checks.due("minutes", minutes, x.account(8));
            Checks.due("all is as it was", true, before.equals(Checks.told(x)));
            dueSame(x, rows < 6 ? 4 : 3, promise != 32);
        });
    }

    private static void refused() {
        dueRefused(27, 2, 4, "pass(3, 0, 11)", x -> x.pass(3, 0, 11));
        dueRefused(29, 3, 4, "weave(3, false)", x -> x.weave(3, false));
        dueRefused(30, 3, 4, "unpick(5)", x -> x.unpick(5));
        dueRefused(32, 5, 4, "add off the loom", x -> Checks.added(x, "a", 0, 99, 0, 1));
        dueRefused(32, 6, 4, "add on another one", x -> Checks.added(x, "a", 0, 6, 0, 1));
        dueRefused(34, 5, 4, "move off the loom", x -> x.move(0, -1, 0));
        dueRefused(34, 6, 4, "move on another one", x -> x.move(0, 3, 0));
        dueRefused(36, 7, 4, "setDelay(4)", x -> x.setDelay(4));
    }

    private static void refusedWithAllRows() {
        dueRefused(27, 1, 6, "pass(1, 0, 0)", x -> x.pass(1, 0, 0));
        dueRefused(28, 1, 6, "beat()", x -> x.beat());
        dueRefused(29, 3, 6, "weave(1, true)", x -> x.weave(1, true));
        dueRefused(30, 3, 6, "unpick(7)", x -> x.unpick(7));
        Checks.edge(28, "what is refused changes nothing but the accounts: a beat without a STOCK", () -> {
            CaptionLoom x = Checks.loaded("loom 12 6;stock 0 10;");
            x.pass(1, 4, 4);
            String before = Checks.told(x);
            Checks.due("beat()", -2, x.beat());
            Checks.due("all is as it was", true, before.equals(Checks.told(x)));
            Checks.due("minutes", 0, x.account(8));
        });
        Checks.edge(29, "what is refused changes nothing but the accounts: a weave without a STOCK", () -> {
            CaptionLoom x = Checks.loaded("loom 12 6;stock 0 40;");
            x.pass(1, 4, 4);
            String before = Checks.told(x);
            Checks.due("weave(4, false)", -2, x.weave(4, false));
            Checks.due("all is as it was", true, before.equals(Checks.told(x)));
            Checks.due("minutes", 0, x.account(8));
        });
    }

    private static void dueThrown(int promise, Class<?> thrown, String name, Call call) {
        Checks.edge(promise, "a method that throws changes nothing: " + name, () -> {
            CaptionLoom x = prepared(4);
            String before = Checks.told(x);
            Checks.dueThrow(name, thrown, () -> call.on(x));
            for (int i = 1; i <= 7; i++) {
                Checks.due("refusals with the reason " + i, 0, x.account(i));
            }
            Checks.due("all is as it was", true, before.equals(Checks.told(x)));
            dueSame(x, 4, promise != 32);
        });
    }

    private static void dueIndex(int promise, String name, Call call) {
        dueThrown(promise, IndexOutOfBoundsException.class, name, call);
    }

    private static void dueArgument(int promise, String name, Call call) {
        dueThrown(promise, IllegalArgumentException.class, name, call);
    }

    private static void throwsIndex() {
        dueIndex(9, "caption", x -> x.caption(2, 0));
        dueIndex(10, "letter", x -> x.letter(1, 1, 0));
        dueIndex(11, "cell", x -> x.cell(12, 0));
        dueIndex(12, "design", x -> x.design(0, 6));
        dueIndex(13, "colour", x -> x.colour(7, 0));
        dueIndex(16, "isAlike", x -> x.isAlike(2));
        dueIndex(17, "joins", x -> x.joins(6));
        dueIndex(23, "wouldErr", x -> x.wouldErr(6));
        dueIndex(25, "share", x -> x.share(7));
        dueIndex(27, "pass", x -> x.pass(7, 0, 0));
        dueIndex(33, "drop", x -> x.drop(2));
        dueIndex(34, "move", x -> x.move(2, 0, 0));
        dueIndex(35, "setStock", x -> x.setStock(7, 0));
        dueIndex(37, "writeRow", x -> x.writeRow(6, false));
        dueIndex(38, "writeCaption", x -> x.writeCaption(2));
    }

    private static void throwsArgument() {
        dueArgument(3, "truncate", x -> x.truncate(6));
        dueArgument(8, "count", x -> x.count(9));
        dueArgument(9, "caption", x -> x.caption(1, 10));
        dueArgument(10, "letter", x -> x.letter(1, 0, 4));
        dueArgument(13, "colour", x -> x.colour(6, 5));
        dueArgument(14, "mistakes", x -> x.mistakes(6));
        dueArgument(18, "slits", x -> x.slits(1));
        dueArgument(20, "account", x -> x.account(9));
        dueArgument(22, "minutes", x -> x.minutes(31));
        dueArgument(24, "place", x -> x.place(9, 0));
        dueArgument(27, "pass", x -> x.pass(6, 1, 0));
        dueArgument(29, "weave", x -> x.weave(31, true));
        dueArgument(30, "unpick", x -> x.unpick(31));
        dueArgument(32, "add of no word", x -> x.add(0, 9, 0, 1));
        dueArgument(32, "add of no side", x -> Checks.added(x, "a", 2, 9, 0, 1));
        dueArgument(32, "add of no colour", x -> Checks.added(x, "a", 0, 9, 0, 0));
        dueArgument(35, "setStock", x -> x.setStock(6, 10000));
        dueArgument(36, "setDelay", x -> x.setDelay(31));
        dueArgument(41, "save", x -> x.save(2));
        dueArgument(42, "restore", x -> x.restore(2));
    }

    private static void throwsState() {
        dueThrown(42, IllegalStateException.class, "restore", x -> x.restore(1));
        Checks.edge(2, "a method that throws changes nothing: append", () -> {
            CaptionLoom x = new CaptionLoom();
            Checks.say(x, "look;" + " ".repeat(376));
            Checks.dueState("append", () -> x.append(1, 2, 3, 4, 5));
            Checks.due("the length of the text", 381, x.truncate(381));
            Checks.due("play", 1, x.play());
        });
    }

    private static void dueAsks(int promise, String name, Call call) {
        Checks.edge(promise, "it changes nothing: " + name, () -> {
            CaptionLoom x = prepared(4);
            String before = Checks.told(x);
            call.on(x);
            Checks.due("all is as it was", true, before.equals(Checks.told(x)));
            dueSame(x, 4, true);
        });
    }

    private static void onlyAsks() {
        dueAsks(15, "fits", x -> x.fits());
        dueAsks(19, "longestSlit", x -> x.longestSlit());
        dueAsks(21, "lasts", x -> x.lasts());
        dueAsks(22, "minutes", x -> x.minutes(30));
        dueAsks(23, "wouldErr", x -> x.wouldErr(5));
        dueAsks(24, "place", x -> x.place(1, 1));
        dueAsks(25, "share", x -> x.share(0));
        dueAsks(26, "meanJoins", x -> x.meanJoins());
        dueAsks(41, "save", x -> x.save(0));
    }
}
