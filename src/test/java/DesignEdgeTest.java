/** The edges of promise 4: designs. A ^ in a design stands ahead of the token that is wrong. */
public final class DesignEdgeTest {
    private static final String TWELVE = "loom 12 8;";

    public static void main(String[] args) {
        width();
        height();
        numbersOfAnyLength();
        words();
        captionX();
        captionY();
        boxOnTheLoom();
        boxesBeside();
        captionColour();
        stockColour();
        stock();
        secondStock();
        delay();
        captions();
        textEnds();
        blanks();
        bytesOfNoToken();
        tokensNotAllowed();
        replacesEverything();
        whatStays();
        whatAnErrorLeaves();
        Checks.endEdges(4, 4);
    }

    private static void width() {
        Checks.edge(4, "WIDTH is 8 at least", () -> {
            Checks.designError(2, "loom ^7 8;");
            Checks.designError(2, "loom ^0 8;");
            Checks.due("WIDTH", 8, Checks.loaded("loom 8 8;").count(0));
        });
        Checks.edge(4, "WIDTH is 40 at most", () -> {
            Checks.designError(2, "loom ^41 8;");
            Checks.due("WIDTH", 40, Checks.loaded("loom 40 8;").count(0));
        });
    }

    private static void height() {
        Checks.edge(4, "HEIGHT is 6 at least", () -> {
            Checks.designError(2, "loom 12 ^5;");
            Checks.designError(2, "loom 12 ^0;");
            Checks.due("HEIGHT", 6, Checks.loaded("loom 12 6;").count(1));
        });
        Checks.edge(4, "HEIGHT is 30 at most", () -> {
            Checks.designError(2, "loom 12 ^31;");
            Checks.due("HEIGHT", 30, Checks.loaded("loom 12 30;").count(1));
        });
    }

    private static void numbersOfAnyLength() {
        Checks.edge(4, "a number may be of any length: no wrap-around at 32 bits", () -> {
            Checks.designError(2, "loom ^4294967308 8;");
            Checks.designError(2, "loom ^2147483648 8;");
            Checks.designError(2, "loom 12 ^4294967304;");
        });
        Checks.edge(4, "a number may be of any length: no wrap-around at 64 bits", () -> {
            Checks.designError(2, "loom ^18446744073709551628 8;");
            Checks.designError(2, "loom ^9223372036854775808 8;");
            Checks.designError(2, "loom 12 8;stock 1 ^18446744073709551616;");
        });
        Checks.edge(4, "a number may be of any length: 300 digits", () -> {
            Checks.designError(2, "loom ^" + "9".repeat(300) + " 8;");
            Checks.designError(2, "loom ^12" + "0".repeat(300) + " 8;");
            Checks.due("WIDTH", 12, Checks.loaded("loom " + "0".repeat(300) + "12 8;").count(0));
        });
        Checks.edge(4, "a number may be of any length: zeros ahead", () -> {
            Checks.due("HEIGHT", 8, Checks.loaded("loom 012 00008;").count(1));
            Checks.designError(2, "loom 012 ^00005;");
        });
    }

    private static void words() {
        Checks.edge(4, "a WORD has 8 letters at most", () -> {
            Checks.designError(2, "loom 40 8;caption ^abcdefghi at 0 0 in 1;");
            Checks.designError(2, "loom 40 8;caption ^" + "a".repeat(300) + " at 0 0 in 1;");
            Checks.due("letters", 8, Checks.loaded("loom 40 8;caption abcdefgh at 0 0 in 1;").caption(0, 0));
        });
        Checks.edge(4, "a WORD has 1 letter at least", () -> {
            Checks.designError(1, TWELVE + "caption ^7 at 0 0 in 1;");
            Checks.due("letters", 1, Checks.loaded(TWELVE + "caption a at 0 0 in 1;").caption(0, 0));
        });
        Checks.edge(4, "a WORD has letters from a", () -> {
            Checks.designError(1, TWELVE + "caption ^` at 0 0 in 1;");
            Checks.due("letter", 1, Checks.loaded(TWELVE + "caption a at 0 0 in 1;").letter(0, 0, 0));
        });
        Checks.edge(4, "a WORD has letters to z", () -> {
            Checks.designError(1, TWELVE + "caption ^{ at 0 0 in 1;");
            Checks.due("letter", 26, Checks.loaded(TWELVE + "caption z at 0 0 in 1;").letter(0, 0, 0));
        });
        Checks.edge(4, "a WORD is any word, also one of the design's own", () -> {
            Checks.designIs(1, "loom 40 8;caption caption at 0 0 in 1;");
            Checks.designIs(1, "loom 40 8;caption loom at 0 0 in 1;");
            Checks.designIs(1, TWELVE + "caption in at 0 0 in 1;");
            Checks.designIs(1, TWELVE + "caption at rear at 0 0 in 1;");
            Checks.designError(1, TWELVE + "caption at ^0 0 in 1;");
        });
        Checks.edge(4, "the WORD rear is no SIDE", () -> {
            Checks.due("SIDE", 0, Checks.loaded("loom 40 8;caption rear at 0 0 in 1;").caption(0, 1));
            Checks.due("SIDE", 1, Checks.loaded("loom 40 8;caption rear rear at 0 0 in 1;").caption(0, 1));
            Checks.designError(1, "loom 40 8;caption rear rear ^rear at 0 0 in 1;");
        });
    }

    private static void captionX() {
        Checks.edge(4, "X is WIDTH - 1 at most", () -> {
            Checks.designError(2, TWELVE + "caption a at ^12 0 in 1;");
            Checks.designError(4, TWELVE + "caption a at 11 ^0 in 1;");
        });
        Checks.edge(4, "X is 0 at least", () -> {
            Checks.due("X", 0, Checks.loaded(TWELVE + "caption a at 0 0 in 1;").caption(0, 2));
            Checks.due("X", 1, Checks.loaded(TWELVE + "caption a at 1 0 in 1;").caption(0, 2));
        });
    }

    private static void captionY() {
        Checks.edge(4, "Y is HEIGHT - 1 at most", () -> {
            Checks.designError(2, TWELVE + "caption a at 0 ^8 in 1;");
            Checks.designError(4, TWELVE + "caption a at 0 ^7 in 1;");
        });
        Checks.edge(4, "Y is 0 at least", () -> {
            Checks.due("Y", 0, Checks.loaded(TWELVE + "caption a at 0 0 in 1;").caption(0, 3));
            Checks.due("Y", 1, Checks.loaded(TWELVE + "caption a at 0 1 in 1;").caption(0, 3));
        });
        Checks.edge(4, "of several codes the least: a Y out of range, off the loom, is 2", () ->
            Checks.designError(2, TWELVE + "caption a at 11 ^8 in 1;"));
    }

    private static void boxOnTheLoom() {
        Checks.edge(4, "the box has the rows Y to Y + 4", () -> {
            Checks.designError(4, TWELVE + "caption a at 0 ^4 in 1;");
            Checks.designIs(1, TWELVE + "caption a at 0 3 in 1;");
        });
        Checks.edge(4, "the box of 1 letter has the columns X to X + 2", () -> {
            Checks.designError(4, TWELVE + "caption a at 10 ^0 in 1;");
            Checks.designIs(1, TWELVE + "caption a at 9 0 in 1;");
        });
        Checks.edge(4, "the box of 3 letters has the columns X to X + 10", () -> {
            Checks.designError(4, TWELVE + "caption abc at 2 ^0 in 1;");
            Checks.designIs(1, TWELVE + "caption abc at 1 0 in 1;");
        });
        Checks.edge(4, "the box of 8 letters has the columns X to X + 30", () -> {
            Checks.designError(4, "loom 30 8;caption abcdefgh at 0 ^0 in 1;");
            Checks.designIs(1, "loom 31 8;caption abcdefgh at 0 0 in 1;");
            Checks.designError(4, "loom 31 8;caption abcdefgh at 1 ^0 in 1;");
        });
        Checks.edge(4, "the box has the warps X to X + 4n - 2 from the rear", () -> {
            Checks.designError(4, TWELVE + "caption ab rear at 6 ^0 in 1;");
            Checks.designIs(1, TWELVE + "caption ab rear at 5 0 in 1;");
        });
        Checks.edge(4, "the least HEIGHT holds a box at the rows 0 and 1", () -> {
            Checks.designIs(1, "loom 8 6;caption a at 0 1 in 1;");
            Checks.designError(4, "loom 8 6;caption a at 0 ^2 in 1;");
        });
    }

    private static void boxesBeside() {
        String one = TWELVE + "caption a at 4 0 in 1;";
        Checks.edge(4, "a box with a cell in common, on its left", () -> {
            Checks.designError(5, one + "caption b at 2 ^0 in 1;");
            Checks.designIs(2, one + "caption b at 1 0 in 1;");
        });
        Checks.edge(4, "a box with a cell in common, on its right", () -> {
            Checks.designError(5, one + "caption b at 6 ^0 in 1;");
            Checks.designIs(2, one + "caption b at 7 0 in 1;");
        });
        Checks.edge(4, "a box with a cell in common, above it", () -> {
            Checks.designError(5, "loom 12 10;caption a at 4 0 in 1;caption b at 4 ^4 in 1;");
            Checks.designIs(2, "loom 12 10;caption a at 4 0 in 1;caption b at 4 5 in 1;");
        });
        Checks.edge(4, "a box with a cell in common, below it", () -> {
            Checks.designError(5, "loom 12 10;caption a at 4 5 in 1;caption b at 4 ^1 in 1;");
            Checks.designIs(2, "loom 12 10;caption a at 4 5 in 1;caption b at 4 0 in 1;");
        });
        Checks.edge(4, "a cell in common at a corner alone", () -> {
            Checks.designError(5, "loom 12 10;caption a at 4 0 in 1;caption b at 6 ^4 in 1;");
            Checks.designIs(2, "loom 12 10;caption a at 4 0 in 1;caption b at 7 4 in 1;");
            Checks.designIs(2, "loom 12 10;caption a at 4 0 in 1;caption b at 6 5 in 1;");
        });
        Checks.edge(4, "the columns between the letters are of the box", () -> {
            Checks.designError(5, "loom 40 10;caption ab at 0 0 in 1;caption i at 3 ^4 in 1;");
            Checks.designIs(2, "loom 40 10;caption ab at 0 0 in 1;caption i at 3 5 in 1;");
        });
        // the warps 0 to 2 are the columns 11 to 9
        Checks.edge(4, "a cell in common with a box of the rear", () -> {
            Checks.designError(5, TWELVE + "caption a rear at 0 0 in 1;caption b at 7 ^0 in 1;");
            Checks.designIs(2, TWELVE + "caption a rear at 0 0 in 1;caption b at 6 0 in 1;");
        });
        Checks.edge(4, "a box of the rear with a cell in common with one of the front", () -> {
            Checks.designError(5, TWELVE + "caption ab at 0 0 in 1;caption b rear at 3 ^0 in 1;");
            Checks.designIs(2, TWELVE + "caption ab at 0 0 in 1;caption b rear at 2 0 in 1;");
        });
        Checks.edge(4, "two boxes of the rear", () -> {
            Checks.designError(5, TWELVE + "caption a rear at 4 0 in 1;caption b rear at 2 ^0 in 1;");
            Checks.designIs(2, TWELVE + "caption a rear at 4 0 in 1;caption b rear at 1 0 in 1;");
        });
        Checks.edge(4, "of several codes the least: a box off the loom, on another one, is 4", () -> {
            Checks.designError(4, TWELVE + "caption a at 0 3 in 1;caption b at 0 ^4 in 1;");
            Checks.designError(5, TWELVE + "caption a at 0 3 in 1;caption b at 0 ^3 in 1;");
        });
    }

    private static void captionColour() {
        Checks.edge(4, "the COLOUR of a caption is 1 at least", () -> {
            Checks.designError(2, TWELVE + "caption a at 0 0 in ^0;");
            Checks.due("COLOUR", 1, Checks.loaded(TWELVE + "caption a at 0 0 in 1;").caption(0, 4));
        });
        Checks.edge(4, "the COLOUR of a caption is 6 at most", () -> {
            Checks.designError(2, TWELVE + "caption a at 0 0 in ^7;");
            Checks.due("COLOUR", 6, Checks.loaded(TWELVE + "caption a at 0 0 in 6;").caption(0, 4));
        });
    }

    private static void stockColour() {
        Checks.edge(4, "the COLOUR of a STOCK is 0 at least", () ->
            Checks.due("STOCK", 7, Checks.loaded(TWELVE + "stock 0 7;").colour(0, 0)));
        Checks.edge(4, "the COLOUR of a STOCK is 6 at most", () -> {
            Checks.designError(2, TWELVE + "stock ^7 7;");
            Checks.due("STOCK", 7, Checks.loaded(TWELVE + "stock 6 7;").colour(6, 0));
        });
    }

    private static void stock() {
        Checks.edge(4, "a STOCK is 0 at least", () ->
            Checks.due("STOCK", 0, Checks.loaded(TWELVE + "stock 1 0;").colour(1, 0)));
        Checks.edge(4, "a STOCK is 9999 at most", () -> {
            Checks.designError(2, TWELVE + "stock 1 ^10000;");
            Checks.due("STOCK", 9999, Checks.loaded(TWELVE + "stock 1 9999;").colour(1, 0));
        });
    }

    private static void secondStock() {
        Checks.edge(4, "the COLOUR of a second stock of this colour is 3", () -> {
            Checks.designError(3, TWELVE + "stock 1 5;stock ^1 5;");
            Checks.designError(3, TWELVE + "stock 0 5;stock 6 5;stock ^0 5;");
            Checks.designError(3, TWELVE + "stock 6 5;stock 0 5;stock ^06 5;");
        });
        Checks.edge(4, "a stock of another colour is no second one", () ->
            Checks.designIs(0, TWELVE + "stock 0 1;stock 1 1;stock 2 1;stock 3 1;stock 4 1;stock 5 1;stock 6 1;"));
        Checks.edge(4, "of several codes the least: a second COLOUR out of range is 2", () ->
            Checks.designError(2, TWELVE + "stock 6 5;stock ^7 5;"));
        Checks.edge(4, "a stock in the design before is no first one", () -> {
            CaptionLoom x = Checks.loaded(TWELVE + "stock 1 5;delay 3;");
            Checks.say(x, TWELVE + "stock 1 6;delay 3;");
            Checks.due("load", 0, x.load());
        });
    }

    private static void delay() {
        Checks.edge(4, "DELAY is 0 at least", () ->
            Checks.due("DELAY", 0, Checks.loaded(TWELVE + "delay 0;").count(5)));
        Checks.edge(4, "DELAY is 30 at most", () -> {
            Checks.designError(2, TWELVE + "delay ^31;");
            Checks.due("DELAY", 30, Checks.loaded(TWELVE + "delay 30;").count(5));
        });
        Checks.edge(4, "the word of a second delay is 3", () -> {
            Checks.designError(3, TWELVE + "delay 4;^delay 4;");
            Checks.designError(3, TWELVE + "delay 4;stock 1 1;^delay");
        });
    }

    private static String captionsInARow(int captions) {
        StringBuilder s = new StringBuilder("loom 40 6;");
        for (int i = 0; i < captions; i++) {
            s.append("caption a at ").append(4 * i).append(" 0 in 1;");
        }
        return s.toString();
    }

    private static void captions() {
        Checks.edge(4, "there are 8 captions at most: the first word of a 9th one is 6", () -> {
            Checks.designIs(8, captionsInARow(8));
            Checks.designError(6, captionsInARow(8) + "^caption a at 32 0 in 1;");
            Checks.designError(6, captionsInARow(8) + " ^caption");
        });
        Checks.edge(4, "a 9th statement that is no caption", () ->
            Checks.designIs(8, captionsInARow(8) + "delay 3;stock 1 1;"));
        Checks.edge(4, "of several codes the least: a wrong word behind 8 captions is 1", () ->
            Checks.designError(1, captionsInARow(8) + "^captions"));
        Checks.edge(4, "there may be no caption, and no statement", () -> Checks.designIs(0, TWELVE));
    }

    /** Where a text ends too early, its end is the position, with the blanks ahead of it. */
    private static void textEnds() {
        String[] tokens = {"loom", "12", "8", ";", "caption", "a", "rear", "at", "0", "0", "in", "1", ";",
            "stock", "1", "2", ";", "delay", "3", ";"};
        for (String blanks : new String[] {"", " ", "\n \n"}) {
            StringBuilder text = new StringBuilder();
            for (String token : tokens) {
                String start = text.toString();
                boolean isWhole = start.endsWith(";" + blanks) || start.endsWith("; " + blanks);
                if (isWhole) {
                    Checks.edge(4, "a design may end behind '" + start + "'", () ->
                        Checks.designIs(start.contains("caption") ? 1 : 0, start));
                } else {
                    Checks.edge(4, "a design may not end behind '" + start + "'", () ->
                        Checks.designError(1, start + "^"));
                }
                text.append(token).append(' ').append(blanks);
            }
        }
        Checks.edge(4, "a design that ends at the byte 400", () -> {
            Checks.designIs(0, TWELVE + " ".repeat(390));
            Checks.designError(1, TWELVE + "delay 3" + " ".repeat(383) + "^");
        });
    }

    private static void blanks() {
        Checks.edge(4, "spaces and line feeds may stand before, between and behind tokens", () ->
            Checks.designIs(1, "\n  loom\n12 \n8 ;caption\na\nrear\nat\n0\n0\nin\n1\n;\n "));
        Checks.edge(4, "no blank need stand between a word, a number and a semicolon", () ->
            Checks.designIs(1, "loom12 8;caption a at0 0in1;stock1 2;delay3;"));
        Checks.edge(4, "a blank within a token makes two", () -> {
            Checks.designError(1, "^lo om 12 8;");
            Checks.designError(1, "loom 12 8 ^0;");
            Checks.designIs(0, "loom 12 8 ;");
        });
    }

    private static void bytesOfNoToken() {
        int[] signs = {0, 1, 2, 9, 11, 13, 31, 33, '/', ':', '@', 'A', 'Z', '`', '|', '~', 127, 128, 160, 255};
        for (int sign : signs) {
            Checks.edge(4, "the byte " + sign + " belongs to no token", () -> {
                String s = String.valueOf((char) sign);
                Checks.designError(1, "^" + s + TWELVE);
                Checks.designError(1, "loom^" + s + " 12 8;");
                Checks.designError(1, "loom 12^" + s + " 8;");
                Checks.designError(1, "loom 12 8;^" + s);
                Checks.designError(1, TWELVE + "caption ^" + s + " at 0 0 in 1;");
            });
        }
        Checks.edge(4, "the braces are tokens of scripts alone", () -> {
            Checks.designError(1, TWELVE + "^{");
            Checks.designError(1, TWELVE + "^}");
            Checks.designError(1, "loom 12 ^{8;");
        });
    }

    private static void tokensNotAllowed() {
        Checks.edge(4, "an empty text, or one of blanks, ends too early", () -> {
            Checks.designError(1, "^");
            Checks.designError(1, " \n^");
        });
        Checks.edge(4, "a design begins with the word loom", () -> {
            Checks.designError(1, "^looms 12 8;");
            Checks.designError(1, "^loo 12 8;");
            Checks.designError(1, "^12 8;");
            Checks.designError(1, "^delay 3;");
        });
        Checks.edge(4, "a word like one of the design's own, but for its first letter", () -> {
            Checks.designError(1, "^boom 12 8;");
            Checks.designError(1, TWELVE + "^maption a at 0 0 in 1;");
            Checks.designError(1, TWELVE + "caption a ^bear at 0 0 in 1;");
            Checks.designError(1, TWELVE + "caption a ^it 0 0 in 1;");
            Checks.designError(1, TWELVE + "caption a at 0 0 ^an 1;");
            Checks.designError(1, TWELVE + "^shock 1 1;");
            Checks.designError(1, TWELVE + "^relay 1;");
        });
        Checks.edge(4, "a word like one of the design's own, but for its last letter", () -> {
            Checks.designError(1, "^look 12 8;");
            Checks.designError(1, TWELVE + "^captiom a at 0 0 in 1;");
            Checks.designError(1, TWELVE + "caption a ^reat at 0 0 in 1;");
            Checks.designError(1, TWELVE + "caption a ^as 0 0 in 1;");
            Checks.designError(1, TWELVE + "caption a at 0 0 ^is 1;");
            Checks.designError(1, TWELVE + "^stocl 1 1;");
            Checks.designError(1, TWELVE + "^delax 1;");
        });
        Checks.edge(4, "of several codes the least: a number where none may stand is 1", () -> {
            Checks.designError(1, TWELVE + "^99999");
            Checks.designError(1, TWELVE + "caption a ^99 0 in 1;");
        });
        Checks.edge(4, "of several codes the least: a long word where no WORD may stand is 1", () -> {
            Checks.designError(1, "loom ^abcdefghij 8;");
            Checks.designError(1, TWELVE + "caption a ^abcdefghij 0 0 in 1;");
        });
        Checks.edge(4, "there is no empty statement", () -> {
            Checks.designError(1, TWELVE + "^;");
            Checks.designError(1, TWELVE + "delay 3;^;");
        });
        Checks.edge(4, "the parser stops at the first token that is wrong", () -> {
            Checks.designError(2, "loom ^41 31;");
            Checks.designError(1, "loom ^a 31 !");
        });
        Checks.edge(4, "a design is told once", () -> Checks.designError(1, TWELVE + "^" + TWELVE));
    }

    private static void replacesEverything() {
        Checks.edge(4, "what the text does not tell is as at first", () -> {
            CaptionLoom x = Checks.loaded("loom 20 10;caption a at 0 0 in 1;delay 9;stock 1 1;");
            Checks.say(x, "loom 8 6;");
            x.load();
            int[] due = {8, 6, 0, 0, 0, 4, 0, 0, 0};
            for (int what = 0; what <= 8; what++) {
                Checks.due("count(" + what + ")", due[what], x.count(what));
            }
            Checks.due("STOCK", 500, x.colour(1, 0));
            Checks.due("design", 0, x.design(1, 4));
        });
        Checks.edge(4, "nothing is woven", () -> {
            CaptionLoom x = Checks.loaded("loom 12 8;");
            x.weave(3, false);
            x.look();
            x.pass(1, 0, 11);
            Checks.say(x, "loom 12 8;");
            x.load();
            Checks.due("finished rows", 0, x.count(2));
            Checks.due("cells of the open row", 0, x.count(3));
            Checks.due("LOOKED", 0, x.count(6));
            Checks.due("cell(0, 0)", -1, x.cell(0, 0));
            Checks.due("cell(0, 3)", -1, x.cell(0, 3));
        });
        Checks.edge(4, "no act can be undone then", () -> {
            CaptionLoom x = new CaptionLoom();
            x.beat();
            Checks.due("ahead of load", 1, x.count(8));
            Checks.say(x, TWELVE);
            x.load();
            Checks.due("acts that can be undone", 0, x.count(8));
            Checks.due("undo", -1, x.undo());
        });
        Checks.edge(4, "the text buffer is empty afterwards", () -> Checks.dueNoText(Checks.loaded(TWELVE)));
    }

    private static void whatStays() {
        Checks.edge(4, "accounts stay", () -> {
            CaptionLoom x = new CaptionLoom();
            x.beat();
            x.setDelay(4);
            Checks.say(x, TWELVE);
            x.load();
            Checks.due("acts", 1, x.account(0));
            Checks.due("refusals", 1, x.account(7));
            Checks.due("minutes", 3, x.account(8));
        });
        Checks.edge(4, "saved states stay", () -> {
            CaptionLoom x = new CaptionLoom();
            x.beat();
            x.save(0);
            Checks.say(x, "loom 9 7;");
            x.load();
            Checks.dueState("restore(1)", () -> x.restore(1));
            x.restore(0);
            Checks.due("WIDTH", 12, x.count(0));
            Checks.due("finished rows", 1, x.count(2));
        });
        Checks.edge(4, "the output stays", () -> {
            CaptionLoom x = new CaptionLoom();
            x.writeRow(0, false);
            Checks.say(x, "loom 9 7;");
            x.load();
            Checks.due("output(11)", '.', x.output(11));
        });
    }

    private static void whatAnErrorLeaves() {
        Checks.edge(4, "with an error nothing else changes", () -> {
            CaptionLoom x = Checks.loaded("loom 14 9;caption a at 0 0 in 1;delay 2;stock 3 33;");
            x.weave(2, false);
            x.look();
            x.pass(1, 0, 1);
            Checks.say(x, "loom 8 6;caption b at 0 0 in 1;caption c at 4 0 in 2;stock 3 44;delay 7;!");
            Checks.due("load", -1, x.load());
            int[] due = {14, 9, 2, 2, 1, 2, 2, 1, 3};
            for (int what = 0; what <= 8; what++) {
                Checks.due("count(" + what + ")", due[what], x.count(what));
            }
            Checks.due("STOCK", 33, x.colour(3, 0));
            Checks.due("letter", 1, x.letter(0, 0, 0));
            Checks.due("undo", 2, x.undo());
        });
        Checks.edge(4, "the text buffer is empty afterwards, also if there is an error", () -> {
            CaptionLoom x = new CaptionLoom();
            Checks.say(x, "look;look;");
            Checks.due("load", -1, x.load());
            Checks.dueNoText(x);
        });
    }
}
