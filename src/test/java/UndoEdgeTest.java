/** The edges of promises 40 to 42: undo, saved states. */
public final class UndoEdgeTest {
    public static void main(String[] args) {
        undoNone();
        undoEight();
        undoRing();
        undoUnchanged();
        undoLeaves();
        undoBringsBack();
        saveSlots();
        saveLeaves();
        restoreSlots();
        restoreBringsBack();
        restoreLeaves();
        Checks.endEdges(40, 42);
    }

    /** Sets the STOCK of 1 to first, then to the next number, up to last: an act each. */
    private static void stocks(CaptionLoom x, int first, int last) {
        for (int stock = first; stock <= last; stock++) {
            x.setStock(1, stock);
        }
    }

    private static void undoNone() {
        Checks.edge(40, "NONE if there is none to undo: a new object", () -> {
            CaptionLoom x = new CaptionLoom();
            Checks.due("undo", -1, x.undo());
            x.look();
            Checks.due("undo", 0, x.undo());
            Checks.due("undo", -1, x.undo());
        });
        Checks.edge(40, "NONE if there is none to undo: after load", () -> {
            CaptionLoom x = new CaptionLoom();
            x.beat();
            Checks.say(x, "loom 12 8;");
            x.load();
            Checks.due("undo", -1, x.undo());
            Checks.due("finished rows", 0, x.count(2));
            x.beat();
            Checks.due("undo", 0, x.undo());
        });
        Checks.edge(40, "NONE if there is none to undo: after restore", () -> {
            CaptionLoom x = new CaptionLoom();
            x.save(0);
            x.beat();
            x.restore(0);
            Checks.due("undo", -1, x.undo());
        });
        Checks.edge(40, "NONE changes nothing", () -> {
            CaptionLoom x = new CaptionLoom();
            stocks(x, 1, 9);
            for (int i = 0; i < 8; i++) {
                x.undo();
            }
            Checks.due("undo", -1, x.undo());
            Checks.due("STOCK", 1, x.colour(1, 0));
            Checks.due("to undo", 0, x.count(8));
        });
    }

    private static void undoEight() {
        for (int acts : new int[] {7, 8, 9, 16, 17}) {
            Checks.edge(40, "the latest 8 acts can be undone, of " + acts, () -> {
                CaptionLoom x = new CaptionLoom();
                stocks(x, 1, acts);
                int most = Math.min(acts, 8);
                Checks.due("to undo", most, x.count(8));
                for (int left = most - 1; left >= 0; left--) {
                    Checks.due("undo", left, x.undo());
                    int stock = acts - most + left;
                    Checks.due("STOCK", stock == 0 ? 500 : stock, x.colour(1, 0));
                }
                Checks.due("undo", -1, x.undo());
            });
        }
        Checks.edge(40, "what is refused is no act to undo", () -> {
            CaptionLoom x = new CaptionLoom();
            stocks(x, 1, 8);
            x.unpick(1);
            x.setDelay(4);
            Checks.due("to undo", 8, x.count(8));
            Checks.due("undo", 7, x.undo());
            Checks.due("STOCK", 7, x.colour(1, 0));
        });
    }

    private static void undoRing() {
        Checks.edge(40, "acts behind undone ones, around the end of the eight", () -> {
            CaptionLoom x = new CaptionLoom();
            stocks(x, 1, 9);
            x.undo();
            x.undo();
            x.undo();
            stocks(x, 21, 25);
            // ahead of the latest eight acts the STOCK was 4, 5, 6, 21, 22, 23, 24, and 3
            int[] due = {24, 23, 22, 21, 6, 5, 4, 3};
            for (int i = 0; i < 8; i++) {
                Checks.due("undo", 7 - i, x.undo());
                Checks.due("STOCK", due[i], x.colour(1, 0));
            }
            Checks.due("undo", -1, x.undo());
        });
        Checks.edge(40, "an act behind all undone ones", () -> {
            CaptionLoom x = new CaptionLoom();
            stocks(x, 1, 3);
            for (int i = 0; i < 3; i++) {
                x.undo();
            }
            stocks(x, 7, 7);
            Checks.due("to undo", 1, x.count(8));
            Checks.due("undo", 0, x.undo());
            Checks.due("STOCK", 500, x.colour(1, 0));
            Checks.due("undo", -1, x.undo());
        });
    }

    private static void undoUnchanged() {
        Checks.edge(40, "also if they changed nothing", () -> {
            CaptionLoom x = new CaptionLoom();
            x.setStock(1, 3);
            x.look();
            x.unpick(0);
            x.setStock(1, 3);
            Checks.due("undo of setStock", 3, x.undo());
            Checks.due("undo of unpick", 2, x.undo());
            Checks.due("undo of look", 1, x.undo());
            Checks.due("STOCK", 3, x.colour(1, 0));
            Checks.due("undo of the first one", 0, x.undo());
            Checks.due("STOCK", 500, x.colour(1, 0));
        });
        Checks.edge(40, "eight acts that changed nothing put an older one out of reach", () -> {
            CaptionLoom x = new CaptionLoom();
            x.setStock(1, 3);
            for (int i = 0; i < 8; i++) {
                x.look();
            }
            for (int i = 7; i >= 0; i--) {
                Checks.due("undo", i, x.undo());
            }
            Checks.due("undo", -1, x.undo());
            Checks.due("STOCK", 3, x.colour(1, 0));
        });
    }

    private static void undoLeaves() {
        Checks.edge(40, "everything but the accounts", () -> {
            CaptionLoom x = new CaptionLoom();
            x.beat();
            x.undo();
            Checks.due("acts", 1, x.account(0));
            Checks.due("minutes", 3, x.account(8));
        });
        Checks.edge(40, "everything but the text buffer", () -> {
            CaptionLoom x = new CaptionLoom();
            Checks.due("add", 0, Checks.added(x, "a", 0, 0, 0, 1));
            Checks.due("undo", 0, x.undo());
            Checks.dueNoText(x);
            x.beat();
            Checks.say(x, "look;");
            x.undo();
            Checks.due("play", 1, x.play());
        });
        Checks.edge(40, "everything but the latest error and the output", () -> {
            CaptionLoom x = new CaptionLoom();
            x.beat();
            Checks.played(x, "beat");
            x.writeRow(0, false);
            x.undo();
            Checks.due("errorCode", 1, x.errorCode());
            Checks.due("errorPosition", 4, x.errorPosition());
            Checks.due("output(0)", '0', x.output(0));
        });
        Checks.edge(40, "everything but the saved states", () -> {
            CaptionLoom x = new CaptionLoom();
            x.beat();
            x.save(1);
            x.undo();
            Checks.dueState("restore(0)", () -> x.restore(0));
            x.restore(1);
            Checks.due("finished rows", 1, x.count(2));
        });
    }

    private static void undoBringsBack() {
        Checks.edge(40, "of unpick: the cells, the STOCK, LOOKED", () -> {
            CaptionLoom x = new CaptionLoom();
            x.weave(8, false);
            x.look();
            x.unpick(8);
            Checks.due("undo", 2, x.undo());
            Checks.due("finished rows", 8, x.count(2));
            Checks.due("LOOKED", 8, x.count(6));
            Checks.due("STOCK", 404, x.colour(0, 0));
            Checks.due("the first cell", 0, x.cell(0, 0));
            Checks.due("the last cell", 0, x.cell(11, 7));
        });
        Checks.edge(40, "of drop: the eighth caption, and the first one", () -> {
            CaptionLoom x = Checks.loaded("loom 40 6;");
            for (int i = 0; i < 8; i++) {
                Checks.added(x, String.valueOf((char) ('a' + i)), 0, 4 * i, 0, 1);
            }
            Checks.due("drop(7)", 7, x.drop(7));
            Checks.due("drop(0)", 6, x.drop(0));
            x.undo();
            x.undo();
            Checks.due("captions", 8, x.count(4));
            Checks.due("the first letter", 1, x.letter(0, 0, 0));
            Checks.due("the last letter", 8, x.letter(7, 0, 0));
            Checks.due("X of the last one", 28, x.caption(7, 2));
        });
        Checks.edge(40, "of the last row: it is open, and empty", () -> {
            CaptionLoom x = new CaptionLoom();
            x.weave(7, false);
            x.beat();
            x.undo();
            Checks.due("finished rows", 7, x.count(2));
            Checks.due("cell", -1, x.cell(0, 7));
            Checks.due("beat", 0, x.beat());
        });
    }

    private static void saveSlots() {
        Checks.edge(41, "slot is 0 or 1", () -> {
            CaptionLoom x = new CaptionLoom();
            Checks.dueArgument("save(-1)", () -> x.save(-1));
            Checks.dueArgument("save(2)", () -> x.save(2));
            Checks.dueArgument("save(MIN)", () -> x.save(Integer.MIN_VALUE));
            Checks.dueArgument("save(MAX)", () -> x.save(Integer.MAX_VALUE));
            Checks.dueArgument("save(32)", () -> x.save(32));
            Checks.dueState("restore(0)", () -> x.restore(0));
            Checks.dueState("restore(1)", () -> x.restore(1));
            x.save(0);
            x.save(1);
            x.restore(0);
            x.restore(1);
        });
        Checks.edge(41, "each slot has a state of its own", () -> {
            CaptionLoom x = new CaptionLoom();
            x.setStock(1, 10);
            x.save(0);
            x.setStock(1, 11);
            x.save(1);
            x.setStock(1, 12);
            x.restore(0);
            Checks.due("STOCK", 10, x.colour(1, 0));
            x.restore(1);
            Checks.due("STOCK", 11, x.colour(1, 0));
        });
        Checks.edge(41, "a state that is already saved there is replaced", () -> {
            CaptionLoom x = new CaptionLoom();
            x.setStock(1, 10);
            x.save(0);
            x.save(1);
            x.setStock(1, 11);
            x.save(0);
            x.setStock(1, 12);
            x.restore(0);
            Checks.due("STOCK of slot 0", 11, x.colour(1, 0));
            x.restore(1);
            Checks.due("STOCK of slot 1", 10, x.colour(1, 0));
        });
    }

    private static void saveLeaves() {
        Checks.edge(41, "it is no act, and the acts can be undone still", () -> {
            CaptionLoom x = new CaptionLoom();
            x.beat();
            x.save(0);
            Checks.due("acts", 1, x.account(0));
            Checks.due("to undo", 1, x.count(8));
            Checks.due("undo", 0, x.undo());
            Checks.due("finished rows", 0, x.count(2));
        });
        Checks.edge(41, "what changes later does not change what is saved", () -> {
            CaptionLoom x = Checks.loaded("loom 12 8;caption ab at 0 0 in 1;");
            x.pass(2, 0, 3);
            x.save(0);
            x.weave(8, false);
            x.drop(0);
            x.restore(0);
            Checks.due("captions", 1, x.count(4));
            Checks.due("cells of the open row", 4, x.count(3));
            Checks.due("finished rows", 0, x.count(2));
            Checks.due("design", 1, x.design(1, 4));
        });
    }

    private static void restoreSlots() {
        Checks.edge(42, "slot is 0 or 1", () -> {
            CaptionLoom x = new CaptionLoom();
            x.save(0);
            x.save(1);
            Checks.dueArgument("restore(-1)", () -> x.restore(-1));
            Checks.dueArgument("restore(2)", () -> x.restore(2));
            Checks.dueArgument("restore(MIN)", () -> x.restore(Integer.MIN_VALUE));
            Checks.dueArgument("restore(32)", () -> x.restore(32));
            x.beat();
            x.restore(0);
            Checks.due("finished rows", 0, x.count(2));
            x.beat();
            x.restore(1);
            Checks.due("finished rows", 0, x.count(2));
        });
        Checks.edge(42, "nothing is saved there", () -> {
            CaptionLoom x = new CaptionLoom();
            Checks.dueState("restore(0)", () -> x.restore(0));
            Checks.dueState("restore(1)", () -> x.restore(1));
            x.save(1);
            Checks.dueState("restore(0)", () -> x.restore(0));
            x.restore(1);
            Checks.due("to undo", 0, x.count(8));
        });
        Checks.edge(42, "of two exceptions the first in the list", () -> {
            CaptionLoom x = new CaptionLoom();
            Checks.dueArgument("restore(2)", () -> x.restore(2));
            Checks.dueArgument("restore(-1)", () -> x.restore(-1));
        });
        Checks.edge(42, "a call that throws changes nothing", () -> {
            CaptionLoom x = new CaptionLoom();
            x.save(0);
            x.beat();
            Checks.dueState("restore(1)", () -> x.restore(1));
            Checks.dueArgument("restore(2)", () -> x.restore(2));
            Checks.due("finished rows", 1, x.count(2));
            Checks.due("undo", 0, x.undo());
        });
    }

    private static void restoreBringsBack() {
        Checks.edge(42, "the saved state stays saved", () -> {
            CaptionLoom x = new CaptionLoom();
            x.save(0);
            for (int i = 0; i < 3; i++) {
                x.weave(8, false);
                x.restore(0);
                Checks.due("finished rows", 0, x.count(2));
            }
        });
        Checks.edge(42, "no act can be undone then", () -> {
            CaptionLoom x = new CaptionLoom();
            stocks(x, 1, 8);
            x.save(0);
            Checks.due("ahead of restore", 8, x.count(8));
            x.restore(0);
            Checks.due("to undo", 0, x.count(8));
            Checks.due("undo", -1, x.undo());
            Checks.due("STOCK", 8, x.colour(1, 0));
        });
        Checks.edge(42, "also of another size", () -> {
            CaptionLoom x = Checks.loaded("loom 40 30;caption abcdefgh at 9 25 in 3;delay 30;stock 0 9999;");
            x.weave(30, false);
            x.look();
            x.save(0);
            Checks.say(x, "loom 8 6;");
            x.load();
            x.restore(0);
            int[] due = {40, 30, 30, 0, 1, 30, 30, 8, 0};
            for (int what = 0; what <= 8; what++) {
                Checks.due("count(" + what + ")", due[what], x.count(what));
            }
            Checks.due("the last cell", 3, x.cell(39, 29));
            Checks.due("the eighth letter", 8, x.letter(0, 7, 1));
            Checks.due("STOCK", 9999 - 1200 + x.colour(3, 1), x.colour(0, 0));
        });
    }

    private static void restoreLeaves() {
        Checks.edge(42, "the accounts stay", () -> {
            CaptionLoom x = new CaptionLoom();
            x.save(0);
            x.beat();
            x.unpick(2);
            x.restore(0);
            Checks.due("acts", 1, x.account(0));
            Checks.due("refusals", 1, x.account(3));
            Checks.due("minutes", 3, x.account(8));
        });
        Checks.edge(42, "the text buffer stays", () -> {
            CaptionLoom x = new CaptionLoom();
            x.save(0);
            Checks.say(x, "look;");
            x.restore(0);
            Checks.due("play", 1, x.play());
        });
        Checks.edge(42, "the other saved state stays", () -> {
            CaptionLoom x = new CaptionLoom();
            x.save(0);
            x.beat();
            x.save(1);
            x.restore(0);
            x.restore(1);
            Checks.due("finished rows", 1, x.count(2));
        });
    }
}
