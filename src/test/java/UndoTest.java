/** Promises 40 to 42: undo, saved states. */
public final class UndoTest {
    private static final String DESIGN =
        "loom 14 6;caption bc at 0 0 in 1;caption d rear at 3 1 in 5;stock 3 77;";

    public static void main(String[] args) {
        undoEachAct();
        undoLatestEight();
        undoLeaves();
        undoOfPlay();
        save();
        restore();
        Checks.end();
    }

    /** Each act on a loom that has some of everything; undo has to bring all of it back. */
    private static void undoEachAct() {
        String[] acts = {"pass", "beat", "weave", "unpick", "look", "add", "drop", "move", "stock", "delay"};
        for (int i = 0; i < acts.length; i++) {
            CaptionLoom x = Checks.loaded(DESIGN);
            x.weave(2, true);
            x.look();
            x.weave(1, false);
            x.pass(3, 2, 4);
            String before = Checks.told(x);
            act(x, i);
            Checks.due("undo of " + acts[i], 4, x.undo());
            Checks.due("all is as it was ahead of " + acts[i], true, Checks.told(x).equals(before));
        }
    }

    private static void act(CaptionLoom x, int which) {
        switch (which) {
            case 0 -> Checks.due("pass", 70, x.pass(3, 0, 3));
            case 1 -> Checks.due("beat", true, x.beat() >= 0);
            case 2 -> Checks.due("weave", true, x.weave(3, false) >= 0);
            case 3 -> Checks.due("unpick", 45, x.unpick(3));
            case 4 -> Checks.due("look", true, x.look() >= 0);
            case 5 -> Checks.due("add", 2, Checks.added(x, "a", 1, 0, 1, 2));
            case 6 -> Checks.due("drop", 1, x.drop(0));
            case 7 -> Checks.due("move", true, x.move(0, 1, 0) >= 0);
            case 8 -> Checks.due("setStock", 74, x.setStock(3, 0));
            default -> Checks.due("setDelay", 4, x.setDelay(3));
        }
    }

    private static void undoLatestEight() {
        CaptionLoom x = new CaptionLoom();
        for (int i = 1; i <= 10; i++) {
            x.setStock(1, i);
            Checks.due("acts that can be undone", Math.min(i, 8), x.count(8));
        }
        for (int i = 7; i >= 0; i--) {
            Checks.due("undo", i, x.undo());
            Checks.due("stock", i + 2, x.colour(1, 0));
            Checks.due("acts that can be undone", i, x.count(8));
        }
        Checks.due("none to undo", -1, x.undo());
        Checks.due("stock", 2, x.colour(1, 0));
        x.setStock(1, 2);
        Checks.due("an act that changed nothing", 0, x.undo());
        for (int i = 1; i <= 9; i++) {
            x.setStock(1, i);
        }
        x.undo();
        x.undo();
        x.setStock(1, 70);
        x.setStock(1, 80);
        x.setStock(1, 90);
        int[] due = {80, 70, 7, 6, 5, 4, 3, 2};
        for (int i = 0; i < due.length; i++) {
            Checks.due("undo", 7 - i, x.undo());
            Checks.due("stock", due[i], x.colour(1, 0));
        }
        Checks.due("none to undo", -1, x.undo());
    }

    private static void undoLeaves() {
        CaptionLoom x = new CaptionLoom();
        x.beat();
        x.unpick(9);
        Checks.say(x, "weave;");
        x.play();
        x.save(0);
        x.beat();
        Checks.say(x, "look;");
        x.writeRow(0, false);
        Checks.due("undo", 1, x.undo());
        Checks.due("undo", 0, x.undo());
        Checks.due("rows", 0, x.count(2));
        Checks.due("acts stay", 2, x.account(0));
        Checks.due("refusals stay", 1, x.account(3));
        Checks.due("minutes stay", 6, x.account(8));
        Checks.due("error stays", 1, x.errorCode());
        Checks.due("its position stays", 5, x.errorPosition());
        Checks.due("output stays", '0', x.output(0));
        Checks.due("text stays", 5, x.truncate(5));
        Checks.due("play of it", 1, x.play());
        x.restore(0);
        Checks.due("saved state stays", 1, x.count(2));
        Checks.due("none to undo", -1, x.undo());
    }

    private static void undoOfPlay() {
        CaptionLoom x = new CaptionLoom();
        Checks.due("play", 12, Checks.played(x, "repeat 6{pass 1 0 0;beat;};"));
        Checks.due("each is an act of its own", 8, x.count(8));
        Checks.due("undo", 7, x.undo());
        Checks.due("the open row", 1, x.count(3));
        Checks.due("undo", 6, x.undo());
        Checks.due("the open row", 0, x.count(3));
        Checks.due("rows", 5, x.count(2));
    }

    private static void save() {
        for (int slot = 0; slot < 2; slot++) {
            CaptionLoom x = Checks.loaded(DESIGN);
            x.weave(3, true);
            x.look();
            x.setDelay(9);
            x.pass(3, 2, 4);
            x.save(slot);
            Checks.due("acts that can be undone stay", 4, x.count(8));
            String before = Checks.told(x);
            x.drop(0);
            x.setStock(1, 1);
            x.save(1 - slot);
            Checks.say(x, "loom 40 30;caption zzz at 3 3 in 2;");
            Checks.due("load", 1, x.load());
            x.weave(9, false);
            x.restore(slot);
            Checks.due("slot " + slot, true, Checks.told(x).equals(before));
            x.restore(1 - slot);
            Checks.due("the other slot", 1, x.count(4));
        }
        CaptionLoom x = new CaptionLoom();
        Checks.dueArgument("save(2)", () -> x.save(2));
        Checks.dueArgument("save(-1)", () -> x.save(-1));
    }

    private static void restore() {
        CaptionLoom x = new CaptionLoom();
        Checks.dueState("restore(0)", () -> x.restore(0));
        x.save(1);
        Checks.dueState("restore(0)", () -> x.restore(0));
        x.beat();
        x.writeRow(0, false);
        Checks.say(x, "beat");
        x.play();
        Checks.say(x, "loom");
        x.restore(1);
        Checks.due("rows", 0, x.count(2));
        Checks.due("none to undo", 0, x.count(8));
        Checks.due("undo", -1, x.undo());
        Checks.due("acts stay", 1, x.account(0));
        Checks.due("minutes stay", 3, x.account(8));
        Checks.due("error stays", 4, x.errorPosition());
        Checks.due("output stays", '0', x.output(11));
        Checks.due("text stays", 4, x.truncate(4));
        x.truncate(0);
        x.beat();
        x.restore(1);
        Checks.due("it stays saved", 0, x.count(2));
        Checks.dueArgument("restore(2)", () -> x.restore(2));
        Checks.dueArgument("restore(-1)", () -> x.restore(-1));
        x.beat();
        Checks.dueState("restore(0)", () -> x.restore(0));
        Checks.due("what throws changes nothing", 1, x.count(8));
    }
}
