/** The edges of promises 1 to 3: a new object, the text buffer. */
public final class TextEdgeTest {
    private static final int SPACES = 0x20202020;

    public static void main(String[] args) {
        newObject();
        newObjectHasNothing();
        everyCall();
        append();
        appendTooMuch();
        truncate();
        Checks.endEdges(1, 3);
    }

    private static void newObject() {
        Checks.edge(1, "WIDTH is 12 at first", () -> {
            CaptionLoom x = new CaptionLoom();
            Checks.due("count(0)", 12, x.count(0));
            Checks.due("cell(11, 0)", -1, x.cell(11, 0));
            Checks.dueIndex("cell(12, 0)", () -> x.cell(12, 0));
        });
        Checks.edge(1, "HEIGHT is 8 at first", () -> {
            CaptionLoom x = new CaptionLoom();
            Checks.due("count(1)", 8, x.count(1));
            Checks.due("cell(0, 7)", -1, x.cell(0, 7));
            Checks.dueIndex("cell(0, 8)", () -> x.cell(0, 8));
        });
        Checks.edge(1, "the STOCK of each colour is 500 at first", () -> {
            CaptionLoom x = new CaptionLoom();
            for (int colour = 0; colour <= 6; colour++) {
                Checks.due("colour(" + colour + ", 0)", 500, x.colour(colour, 0));
            }
        });
        Checks.edge(1, "DELAY is 4 at first", () -> {
            CaptionLoom x = new CaptionLoom();
            Checks.due("count(5)", 4, x.count(5));
            Checks.due("setDelay(4)", -7, x.setDelay(4));
            Checks.due("setDelay(5)", 4, x.setDelay(5));
        });
        Checks.edge(1, "LOOKED is 0 at first", () -> {
            CaptionLoom x = new CaptionLoom();
            Checks.due("count(6)", 0, x.count(6));
            x.pass(1, 0, 0);
            x.beat();
            Checks.due("a mistake of row 0 is not seen", 0, x.mistakes(1));
        });
        Checks.edge(1, "as with the design \"loom 12 8;\"", () -> {
            CaptionLoom x = new CaptionLoom();
            CaptionLoom y = Checks.loaded("loom 12 8;");
            for (int what = 0; what <= 8; what++) {
                Checks.due("count(" + what + ")", y.count(what), x.count(what));
            }
            for (int colour = 0; colour <= 6; colour++) {
                Checks.due("cells of the design of " + colour, y.colour(colour, 2), x.colour(colour, 2));
                Checks.due("cells to weave of " + colour, y.colour(colour, 3), x.colour(colour, 3));
            }
        });
    }

    private static void everyCall() {
        Checks.edge(1, "an object is used for 512 calls: the last two of them", () -> {
            CaptionLoom x = new CaptionLoom();
            for (int i = 0; i < 510; i++) {
                x.setStock(1, i);
            }
            Checks.due("acts, the call 511", 510, x.account(0));
            Checks.due("undo, the call 512", 7, x.undo());
        });
    }

    private static void newObjectHasNothing() {
        Checks.edge(1, "empty: no cell has a colour", () -> {
            CaptionLoom x = new CaptionLoom();
            for (int row = 0; row < 8; row++) {
                for (int column = 0; column < 12; column++) {
                    Checks.due("cell(" + column + ", " + row + ")", -1, x.cell(column, row));
                }
            }
        });
        Checks.edge(1, "empty: no caption", () -> {
            CaptionLoom x = new CaptionLoom();
            Checks.due("count(4)", 0, x.count(4));
            Checks.dueIndex("drop(0)", () -> x.drop(0));
        });
        Checks.edge(1, "with an empty text buffer", () -> {
            CaptionLoom x = new CaptionLoom();
            Checks.dueNoText(x);
            Checks.due("append", 20, x.append(SPACES, SPACES, SPACES, SPACES, SPACES));
        });
        for (int slot = 0; slot <= 1; slot++) {
            int at = slot;
            Checks.edge(1, "no saved state in slot " + slot, () -> {
                CaptionLoom x = new CaptionLoom();
                Checks.dueState("restore", () -> x.restore(at));
                x.save(at);
                x.restore(at);
            });
        }
        Checks.edge(1, "no act that can be undone", () -> {
            CaptionLoom x = new CaptionLoom();
            Checks.due("undo", -1, x.undo());
        });
        Checks.edge(1, "no account", () -> {
            CaptionLoom x = new CaptionLoom();
            for (int what = 0; what <= 8; what++) {
                Checks.due("account(" + what + ")", 0, x.account(what));
            }
        });
    }

    /** Four bytes a parameter, all spaces but one. */
    private static int[] spacesBut(int index, int sign) {
        int[] p = {SPACES, SPACES, SPACES, SPACES, SPACES};
        int shift = 24 - 8 * (index % 4);
        p[index / 4] = p[index / 4] & ~(255 << shift) | sign << shift;
        return p;
    }

    private static void append() {
        Checks.edge(2, "20 bytes: four of each parameter, the highest first", () -> {
            CaptionLoom x = new CaptionLoom();
            for (int i = 0; i < 20; i++) {
                int[] p = spacesBut(i, '!');
                Checks.due("append", 20, x.append(p[0], p[1], p[2], p[3], p[4]));
                Checks.due("play", -1, x.play());
                Checks.due("the byte " + i, i, x.errorPosition());
            }
        });
        Checks.edge(2, "a highest byte of 128 to 255 (a negative parameter) is one byte", () -> {
            CaptionLoom x = new CaptionLoom();
            for (int i = 0; i < 20; i += 4) {
                int[] p = spacesBut(i, i < 10 ? 255 : 128);
                Checks.due("append", 20, x.append(p[0], p[1], p[2], p[3], p[4]));
                Checks.due("play", -1, x.play());
                Checks.due("the byte " + i, i, x.errorPosition());
            }
        });
        Checks.edge(2, "the byte 0 is a byte, too", () -> {
            CaptionLoom x = new CaptionLoom();
            Checks.due("append", 20, x.append(0, 0, 0, 0, 0));
            Checks.due("truncate", 20, x.truncate(20));
            Checks.due("play", -1, x.play());
            Checks.due("errorPosition", 0, x.errorPosition());
        });
        Checks.edge(2, "returns the length of the text", () -> {
            CaptionLoom x = new CaptionLoom();
            Checks.due("append", 20, x.append(SPACES, SPACES, SPACES, SPACES, SPACES));
            Checks.due("append", 40, x.append(SPACES, SPACES, SPACES, SPACES, SPACES));
            x.truncate(3);
            Checks.due("append", 23, x.append(SPACES, SPACES, SPACES, SPACES, SPACES));
        });
        Checks.edge(2, "appends behind what is there", () -> {
            CaptionLoom x = new CaptionLoom();
            Checks.say(x, "look;lo");
            x.append(0x6f6b3b20, SPACES, SPACES, SPACES, SPACES);
            Checks.due("play", 2, x.play());
        });
    }

    private static CaptionLoom withText(int length) {
        CaptionLoom x = new CaptionLoom();
        Checks.say(x, "look;" + " ".repeat(length - 5));
        return x;
    }

    private static void appendTooMuch() {
        Checks.edge(2, "a text of 380 bytes becomes one of 400", () -> {
            CaptionLoom x = withText(380);
            Checks.due("append", 400, x.append(SPACES, SPACES, SPACES, SPACES, 0x2020203b));
            Checks.due("play", -1, x.play());
            Checks.due("its last byte is there", 399, x.errorPosition());
        });
        Checks.edge(2, "a text of 381 bytes would be longer than 400", () -> {
            CaptionLoom x = withText(381);
            Checks.dueState("append", () -> x.append(SPACES, SPACES, SPACES, SPACES, SPACES));
        });
        Checks.edge(2, "a text of 400 bytes would be longer than 400", () -> {
            CaptionLoom x = withText(400);
            Checks.dueState("append", () -> x.append(SPACES, SPACES, SPACES, SPACES, SPACES));
        });
        Checks.edge(2, "a call that throws changes nothing", () -> {
            CaptionLoom x = withText(381);
            Checks.dueState("append", () -> x.append(0, 0, 0, 0, 0));
            Checks.dueArgument("truncate(382)", () -> x.truncate(382));
            Checks.due("truncate(381)", 381, x.truncate(381));
            Checks.due("play", 1, x.play());
        });
    }

    private static void truncate() {
        Checks.edge(3, "length from 0", () -> {
            CaptionLoom x = withText(30);
            Checks.dueArgument("truncate(-1)", () -> x.truncate(-1));
            Checks.dueArgument("truncate(MIN)", () -> x.truncate(Integer.MIN_VALUE));
            Checks.due("truncate(0)", 0, x.truncate(0));
        });
        Checks.edge(3, "length to the present length", () -> {
            CaptionLoom x = withText(30);
            Checks.dueArgument("truncate(31)", () -> x.truncate(31));
            Checks.dueArgument("truncate(MAX)", () -> x.truncate(Integer.MAX_VALUE));
            Checks.due("truncate(30)", 30, x.truncate(30));
        });
        Checks.edge(3, "an empty text has the length 0 alone", () -> {
            CaptionLoom x = new CaptionLoom();
            Checks.dueArgument("truncate(1)", () -> x.truncate(1));
            Checks.dueArgument("truncate(-1)", () -> x.truncate(-1));
            Checks.due("truncate(0)", 0, x.truncate(0));
        });
        Checks.edge(3, "a full text has the length 400", () -> {
            CaptionLoom x = withText(400);
            Checks.dueArgument("truncate(401)", () -> x.truncate(401));
            Checks.due("truncate(400)", 400, x.truncate(400));
        });
        Checks.edge(3, "what was cut is out of range then", () -> {
            CaptionLoom x = withText(30);
            Checks.due("truncate(7)", 7, x.truncate(7));
            Checks.dueArgument("truncate(8)", () -> x.truncate(8));
            Checks.due("truncate(7)", 7, x.truncate(7));
        });
        Checks.edge(3, "its first bytes stay", () -> {
            CaptionLoom x = new CaptionLoom();
            Checks.say(x, "look;look;}");
            Checks.due("truncate(10)", 10, x.truncate(10));
            Checks.due("play", 2, x.play());
        });
        Checks.edge(3, "a call that throws changes nothing", () -> {
            CaptionLoom x = new CaptionLoom();
            Checks.say(x, "look;look;");
            Checks.dueArgument("truncate(-1)", () -> x.truncate(-1));
            Checks.dueArgument("truncate(11)", () -> x.truncate(11));
            Checks.due("play", 2, x.play());
        });
    }
}
