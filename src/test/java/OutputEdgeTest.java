/** The edges of promises 37 to 39: what is written, and the output. */
public final class OutputEdgeTest {
    public static void main(String[] args) {
        writeRowArguments();
        writeRowCells();
        writeRowMarks();
        writeCaptionArguments();
        writeCaptionSigns();
        output();
        outputReplaced();
        outputStays();
        Checks.endEdges(37, 39);
    }

    private static void writeRowArguments() {
        Checks.edge(37, "no row -1", () -> {
            CaptionLoom x = new CaptionLoom();
            Checks.dueIndex("writeRow(-1, false)", () -> x.writeRow(-1, false));
            Checks.dueIndex("writeRow(MIN, true)", () -> x.writeRow(Integer.MIN_VALUE, true));
            Checks.due("writeRow(0, false)", 12, x.writeRow(0, false));
        });
        Checks.edge(37, "no row at HEIGHT", () -> {
            CaptionLoom x = new CaptionLoom();
            Checks.dueIndex("writeRow(8, false)", () -> x.writeRow(8, false));
            Checks.dueIndex("writeRow(MAX, true)", () -> x.writeRow(Integer.MAX_VALUE, true));
            Checks.due("writeRow(7, true)", 12, x.writeRow(7, true));
            CaptionLoom y = Checks.loaded("loom 8 30;");
            Checks.dueIndex("writeRow(30, false)", () -> y.writeRow(30, false));
            Checks.due("writeRow(29, false)", 8, y.writeRow(29, false));
        });
    }

    private static void writeRowCells() {
        Checks.edge(37, "a dot if it has none, a digit if it has one", () -> {
            CaptionLoom x = Checks.loaded("loom 8 6;");
            Checks.dueText("an empty row", "........", x, x.writeRow(0, false));
            x.pass(0, 0, 0);
            x.pass(6, 7, 7);
            Checks.dueText("with the colours 0 and 6", "6......0", x, x.writeRow(0, false));
            Checks.dueText("the row above", "........", x, x.writeRow(1, false));
        });
        Checks.edge(37, "by warps, otherwise by columns", () -> {
            CaptionLoom x = Checks.loaded("loom 9 6;");
            for (int warp = 0; warp < 6; warp++) {
                x.pass(warp + 1, warp, warp);
            }
            Checks.dueText("by columns", "...654321", x, x.writeRow(0, false));
            Checks.dueText("by warps", "123456...", x, x.writeRow(0, true));
        });
        Checks.edge(37, "the widest row, without a mark and with one behind each cell", () -> {
            CaptionLoom x = Checks.loaded("loom 40 6;delay 1;");
            x.pass(3, 0, 39);
            x.beat();
            Checks.dueText("not seen", "3".repeat(40), x, x.writeRow(0, false));
            x.beat();
            Checks.dueText("seen", "3!".repeat(40), x, x.writeRow(0, false));
            Checks.dueText("seen from the rear", "3!".repeat(40), x, x.writeRow(0, true));
        });
    }

    private static void writeRowMarks() {
        Checks.edge(37, "a mistake that is seen, by DELAY", () -> {
            CaptionLoom x = Checks.loaded("loom 8 6;delay 2;");
            x.pass(3, 0, 0);
            x.beat();
            x.beat();
            Checks.dueText("with one row above", "00000003", x, x.writeRow(0, false));
            x.beat();
            Checks.dueText("with two rows above", "00000003!", x, x.writeRow(0, false));
        });
        Checks.edge(37, "a mistake that is seen, by LOOKED", () -> {
            CaptionLoom x = Checks.loaded("loom 8 6;");
            x.pass(3, 0, 0);
            x.beat();
            x.look();
            x.pass(3, 0, 0);
            x.beat();
            Checks.dueText("the row 0, of LOOKED 1", "3!0000000", x, x.writeRow(0, true));
            Checks.dueText("the row 1, of LOOKED 1", "30000000", x, x.writeRow(1, true));
        });
        Checks.edge(37, "the open row has no mistake", () -> {
            CaptionLoom x = Checks.loaded("loom 8 6;delay 0;");
            x.pass(3, 0, 7);
            Checks.dueText("open", "33333333", x, x.writeRow(0, false));
            x.beat();
            Checks.dueText("finished", "3!".repeat(8), x, x.writeRow(0, false));
        });
        Checks.edge(37, "a ground where the design has a colour is a mistake", () -> {
            CaptionLoom x = Checks.loaded("loom 8 6;caption l at 0 0 in 1;delay 0;");
            x.beat();
            Checks.dueText("row 0", "0!0!0!00000", x, x.writeRow(0, false));
            Checks.dueText("row 0 from the rear", "000000!0!0!", x, x.writeRow(0, true));
        });
    }

    private static void writeCaptionArguments() {
        Checks.edge(38, "no caption -1", () -> {
            CaptionLoom x = Checks.loaded("loom 12 8;caption a at 0 0 in 1;");
            Checks.dueIndex("writeCaption(-1)", () -> x.writeCaption(-1));
            Checks.dueIndex("writeCaption(MIN)", () -> x.writeCaption(Integer.MIN_VALUE));
            Checks.due("writeCaption(0)", 1, x.writeCaption(0));
        });
        Checks.edge(38, "no caption behind the last one", () -> {
            CaptionLoom x = Checks.loaded("loom 12 8;caption a at 0 0 in 1;caption bc at 4 0 in 1;");
            Checks.dueIndex("writeCaption(2)", () -> x.writeCaption(2));
            Checks.dueIndex("writeCaption(MAX)", () -> x.writeCaption(Integer.MAX_VALUE));
            Checks.due("writeCaption(1)", 2, x.writeCaption(1));
        });
        Checks.edge(38, "no caption at all", () -> {
            CaptionLoom x = new CaptionLoom();
            Checks.dueIndex("writeCaption(0)", () -> x.writeCaption(0));
        });
    }

    private static void writeCaptionSigns() {
        Checks.edge(38, "a hyphen if it cannot be read", () -> {
            CaptionLoom x = Checks.loaded("loom 12 8;caption az at 0 1 in 1;");
            x.weave(5, false);
            x.pass(1, 0, 11);
            Checks.dueText("with four rows", "--", x, x.writeCaption(0));
            x.unpick(0);
            x.weave(1, false);
            Checks.dueText("with five rows", "az", x, x.writeCaption(0));
        });
        Checks.edge(38, "a question mark if nothing is read", () -> {
            CaptionLoom x = Checks.loaded("loom 12 8;caption ii at 0 0 in 1;");
            Checks.passColumn(x, 2, 4);
            x.weave(5, false);
            Checks.dueText("the second letter", "i?", x, x.writeCaption(0));
        });
        Checks.edge(38, "the letter that is read, also another one than that of its WORD", () -> {
            // l with a cell at the right of each row but the top one is no letter; woven blind it is j
            CaptionLoom x = Checks.loaded("loom 11 6;caption l at 4 0 in 1;");
            x.weave(6, true);
            Checks.dueText("blind", "j", x, x.writeCaption(0));
        });
        Checks.edge(38, "one letter, and eight", () -> {
            CaptionLoom x = Checks.loaded("loom 31 12;caption abcdwxyz at 0 0 in 1;caption z at 0 5 in 1;");
            Checks.dueText("eight, ahead", "--------", x, x.writeCaption(0));
            x.weave(10, false);
            Checks.dueText("eight", "abcdwxyz", x, x.writeCaption(0));
            Checks.dueText("one", "z", x, x.writeCaption(1));
        });
    }

    private static void output() {
        Checks.edge(39, "NONE if nothing was written", () -> {
            CaptionLoom x = new CaptionLoom();
            Checks.due("output(0)", -1, x.output(0));
            x.writeRow(0, false);
            Checks.due("output(0)", '.', x.output(0));
        });
        Checks.edge(39, "NONE ahead of the first byte", () -> {
            CaptionLoom x = new CaptionLoom();
            x.writeRow(0, false);
            Checks.due("output(-1)", -1, x.output(-1));
            Checks.due("output(MIN)", -1, x.output(Integer.MIN_VALUE));
            Checks.due("output(0)", '.', x.output(0));
        });
        Checks.edge(39, "NONE behind the last byte", () -> {
            CaptionLoom x = new CaptionLoom();
            x.writeRow(0, false);
            Checks.due("output(12)", -1, x.output(12));
            Checks.due("output(400)", -1, x.output(400));
            Checks.due("output(MAX)", -1, x.output(Integer.MAX_VALUE));
            Checks.due("output(11)", '.', x.output(11));
        });
        Checks.edge(39, "the longest output has 80 bytes", () -> {
            CaptionLoom x = Checks.loaded("loom 40 6;delay 0;");
            x.pass(3, 0, 39);
            x.beat();
            Checks.due("bytes", 80, x.writeRow(0, false));
            Checks.due("output(79)", '!', x.output(79));
            Checks.due("output(80)", -1, x.output(80));
        });
    }

    private static void outputReplaced() {
        Checks.edge(39, "the output is replaced by a shorter one", () -> {
            CaptionLoom x = Checks.loaded("loom 12 8;caption a at 0 0 in 1;");
            x.writeRow(0, false);
            x.writeCaption(0);
            Checks.due("output(0)", '-', x.output(0));
            Checks.due("output(1)", -1, x.output(1));
        });
        Checks.edge(39, "the output is replaced by a longer one", () -> {
            CaptionLoom x = Checks.loaded("loom 12 8;caption a at 0 0 in 1;");
            x.writeCaption(0);
            x.writeRow(0, false);
            Checks.due("output(11)", '.', x.output(11));
            Checks.due("output(12)", -1, x.output(12));
        });
    }

    private static void outputStays() {
        Checks.edge(39, "a call that throws leaves the output", () -> {
            CaptionLoom x = new CaptionLoom();
            x.writeRow(0, false);
            Checks.dueIndex("writeRow(8, false)", () -> x.writeRow(8, false));
            Checks.dueIndex("writeCaption(0)", () -> x.writeCaption(0));
            Checks.dueText("the output", "............", x, 12);
        });
        Checks.edge(39, "acts, undo, restore and load leave the output", () -> {
            CaptionLoom x = new CaptionLoom();
            x.save(0);
            x.writeRow(0, false);
            x.pass(1, 0, 11);
            Checks.dueText("after an act", "............", x, 12);
            x.undo();
            x.restore(0);
            Checks.say(x, "loom 8 6;");
            x.load();
            Checks.dueText("after load", "............", x, 12);
        });
    }
}
