/** Promises 37 to 39: what is written, and the output. */
public final class OutputTest {
    public static void main(String[] args) {
        writeRow();
        writeRowSeen();
        writeCaption();
        output();
        Checks.end();
    }

    private static void writeRow() {
        CaptionLoom x = Checks.loaded("loom 9 6;caption i at 1 0 in 6;");
        Checks.dueText("a row without cells", ".........", x, x.writeRow(5, false));
        x.pass(2, 0, 2);
        x.pass(0, 8, 8);
        Checks.dueText("the open row", "0.....222", x, x.writeRow(0, false));
        Checks.dueText("the open row from the rear", "222.....0", x, x.writeRow(0, true));
        x.weave(1, false);
        Checks.dueText("a row whose mistakes are not seen", "066600222", x, x.writeRow(0, false));
        x.weave(1, false);
        Checks.dueText("a right row", "000000600", x, x.writeRow(1, true));
        Checks.dueIndex("writeRow(6, false)", () -> x.writeRow(6, false));
        Checks.dueIndex("writeRow(-1, true)", () -> x.writeRow(-1, true));
        Checks.dueText("the output of what throws stays", "000000600", x, 9);
    }

    private static void writeRowSeen() {
        CaptionLoom x = Checks.loaded("loom 9 6;caption i at 1 0 in 6;delay 2;");
        x.pass(2, 0, 2);
        x.pass(3, 7, 7);
        x.beat();
        x.pass(1, 3, 3);
        x.weave(1, false);
        Checks.dueText("not seen", "030000222", x, x.writeRow(0, false));
        x.weave(1, false);
        Checks.dueText("seen", "03!0!0!002!2!2!", x, x.writeRow(0, false));
        Checks.dueText("seen from the rear", "2!2!2!000!0!3!0", x, x.writeRow(0, true));
        Checks.dueText("not yet", "006001000", x, x.writeRow(1, false));
        x.look();
        Checks.dueText("looked at", "00600" + "1!000", x, x.writeRow(1, false));
        x.pass(5, 0, 8);
        Checks.dueText("the open row has no mistakes", "555555555", x, x.writeRow(3, true));
        CaptionLoom y = Checks.loaded("loom 40 30;delay 0;");
        y.pass(6, 0, 39);
        y.beat();
        Checks.dueText("the longest", "6!".repeat(40), y, y.writeRow(0, false));
        Checks.due("behind it", -1, y.output(80));
    }

    private static void writeCaption() {
        CaptionLoom x = Checks.loaded("loom 20 8;caption azb rear at 1 1 in 4;");
        Checks.dueText("ahead of its end", "---", x, x.writeCaption(0));
        x.weave(3, false);
        x.pass(4, 5, 5);
        x.weave(2, false);
        Checks.dueText("ahead of its end", "---", x, x.writeCaption(0));
        x.weave(1, false);
        Checks.dueText("with what is no letter", "a?b", x, x.writeCaption(0));
        x.unpick(5);
        x.weave(7, false);
        Checks.dueText("right", "azb", x, x.writeCaption(0));
        x.move(0, 0, 1);
        Checks.dueText("moved", "???", x, x.writeCaption(0));
        CaptionLoom y = Checks.loaded("loom 11 6;caption bid at 0 1 in 1;");
        y.weave(6, true);
        Checks.dueText("woven blind", "bid", y, y.writeCaption(0));
        y.unpick(6);
        y.drop(0);
        Checks.added(y, "bit", 0, 0, 1, 1);
        y.weave(6, true);
        Checks.dueText("woven blind", "tid", y, y.writeCaption(0));
        Checks.dueIndex("writeCaption(1)", () -> y.writeCaption(1));
        Checks.dueIndex("writeCaption(-1)", () -> y.writeCaption(-1));
        Checks.due("the output stays", 'd', y.output(2));
    }

    private static void output() {
        CaptionLoom x = new CaptionLoom();
        Checks.due("nothing was written", -1, x.output(0));
        x.writeRow(0, false);
        Checks.due("output(0)", '.', x.output(0));
        Checks.due("output(11)", '.', x.output(11));
        Checks.due("output(12)", -1, x.output(12));
        Checks.due("output(-1)", -1, x.output(-1));
        Checks.due("output(MAX)", -1, x.output(Integer.MAX_VALUE));
        Checks.due("output(MIN)", -1, x.output(Integer.MIN_VALUE));
        Checks.added(x, "i", 0, 0, 0, 1);
        x.writeCaption(0);
        Checks.due("it is replaced", '-', x.output(0));
        Checks.due("behind it", -1, x.output(1));
        x.undo();
        x.save(0);
        x.restore(0);
        Checks.say(x, "loom 8 6;");
        x.load();
        Checks.due("it stays", '-', x.output(0));
    }
}
