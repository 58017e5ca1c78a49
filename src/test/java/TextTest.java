/** Promises 1 to 7: a new object, the text buffer, designs and scripts as texts. */
public final class TextTest {
    private static final int SPACES = 0x20202020;

    public static void main(String[] args) {
        newObject();
        append();
        truncate();
        load();
        loadKeeps();
        play();
        playStops();
        designErrors();
        captionErrors();
        scriptErrors();
        commandLimits();
        latestError();
        Checks.end();
    }

    private static void newObject() {
        CaptionLoom x = new CaptionLoom();
        int[] counts = {12, 8, 0, 0, 0, 4, 0, 0, 0};
        for (int what = 0; what < counts.length; what++) {
            Checks.due("count(" + what + ") of a new object", counts[what], x.count(what));
        }
        for (int colour = 0; colour < 7; colour++) {
            Checks.due("stock of a new object", 500, x.colour(colour, 0));
        }
        for (int what = 0; what <= 8; what++) {
            Checks.due("account of a new object", 0, x.account(what));
        }
        for (int row = 0; row < 8; row++) {
            for (int column = 0; column < 12; column++) {
                Checks.due("cell of a new object", CaptionLoom.NONE, x.cell(column, row));
            }
        }
        Checks.due("errorCode", 0, x.errorCode());
        Checks.due("errorPosition", -1, x.errorPosition());
        Checks.due("output", -1, x.output(0));
        Checks.due("undo", -1, x.undo());
        Checks.dueArgument("truncate(1) of no text", () -> x.truncate(1));
        Checks.dueState("restore(0)", () -> x.restore(0));
        Checks.dueState("restore(1)", () -> x.restore(1));
    }

    private static void append() {
        CaptionLoom x = new CaptionLoom();
        Checks.due("append", 20, x.append(0x6c6f6f6d, 0x20382036, SPACES, SPACES, 0x2020203b));
        Checks.due("load of what was appended", 0, x.load());
        Checks.due("width", 8, x.count(0));
        for (int i = 1; i <= 20; i++) {
            Checks.due("append", 20 * i, x.append(SPACES, SPACES, SPACES, SPACES, SPACES));
        }
        Checks.dueState("append to 400 bytes", () -> x.append(0, 0, 0, 0, 0));
        Checks.due("truncate", 381, x.truncate(381));
        Checks.dueState("append to 381 bytes", () -> x.append(0, 0, 0, 0, 0));
        Checks.due("what threw left the text", 381, x.truncate(381));
        Checks.due("truncate", 380, x.truncate(380));
        Checks.due("append to 380 bytes", 400, x.append(SPACES, SPACES, SPACES, SPACES, -1));
        Checks.due("a script of spaces, and bytes over 127", -1, x.play());
        Checks.due("the first of them", 396, x.errorPosition());
    }

    private static void truncate() {
        CaptionLoom x = new CaptionLoom();
        Checks.due("truncate(0)", 0, x.truncate(0));
        Checks.dueArgument("truncate(-1)", () -> x.truncate(-1));
        x.append(0x6c6f6f6b, 0x3b6c6f6f, 0x6b3b6c6f, 0x6f6b3b6c, 0x6f6f6b3b);
        Checks.dueArgument("truncate(21)", () -> x.truncate(21));
        Checks.dueArgument("truncate(MIN)", () -> x.truncate(Integer.MIN_VALUE));
        Checks.due("truncate(20)", 20, x.truncate(20));
        Checks.due("truncate(10)", 10, x.truncate(10));
        Checks.dueArgument("truncate(11)", () -> x.truncate(11));
        Checks.due("play of look;look;", 2, x.play());
        Checks.due("no text is left", 0, x.truncate(0));
        Checks.dueArgument("truncate(1) of no text", () -> x.truncate(1));
    }

    private static void load() {
        CaptionLoom x = new CaptionLoom();
        x.setDelay(0);
        x.setStock(3, 7);
        Checks.added(x, "i", 0, 0, 0, 1);
        x.weave(2, false);
        x.look();
        Checks.say(x, "\nloom20 0010;caption rear rear at 0 0 in 2;stock 6 9999;caption at at 0 5\nin 6 ; ");
        Checks.due("load", 2, x.load());
        int[] counts = {20, 10, 0, 0, 2, 4, 0, 6, 0};
        for (int what = 0; what < counts.length; what++) {
            Checks.due("count(" + what + ") after load", counts[what], x.count(what));
        }
        Checks.due("stock told", 9999, x.colour(6, 0));
        Checks.due("stock not told", 500, x.colour(3, 0));
        Checks.due("nothing is woven", -1, x.cell(0, 0));
        Checks.due("letters of rear", 4, x.caption(0, 0));
        Checks.due("side of rear", 1, x.caption(0, 1));
        Checks.due("side of at", 0, x.caption(1, 1));
        Checks.due("first letter of at", 1, x.letter(1, 0, 0));
        Checks.due("Y of at", 5, x.caption(1, 3));
        Checks.due("text is empty", 0, x.truncate(0));
        Checks.due("undo", -1, x.undo());
        Checks.say(x, "loom 40 30;delay 30;stock 0 0;");
        Checks.due("load of the widest", 0, x.load());
        Checks.due("delay", 30, x.count(5));
        Checks.due("ground", 0, x.colour(0, 0));
        Checks.due("widest", 40, x.count(0));
        Checks.due("highest", 30, x.count(1));
    }

    private static void loadKeeps() {
        CaptionLoom x = new CaptionLoom();
        x.save(1);
        x.weave(3, false);
        Checks.due("refused", -3, x.weave(30, false));
        Checks.say(x, "loom 9 7");
        Checks.due("load of a design without its end", -1, x.load());
        Checks.due("width stays", 12, x.count(0));
        Checks.due("rows stay", 3, x.count(2));
        Checks.due("undo stays", 1, x.count(8));
        Checks.due("text is empty after an error", 0, x.truncate(0));
        Checks.dueArgument("truncate(1)", () -> x.truncate(1));
        Checks.say(x, "loom 9 7;");
        Checks.due("load", 0, x.load());
        Checks.due("acts stay", 1, x.account(0));
        Checks.due("refusals stay", 1, x.account(3));
        Checks.due("minutes stay", 9, x.account(8));
        x.restore(1);
        Checks.due("saved state stays", 12, x.count(0));
    }

    private static void play() {
        CaptionLoom x = new CaptionLoom();
        Checks.due("play of an empty text", 0, x.play());
        Checks.due("its error", 0, x.errorCode());
        Checks.due("play", 5, Checks.played(x, "pass 2 0 3;beat;weave 2;look;unpick 1;"));
        Checks.due("rows", 2, x.count(2));
        Checks.due("cell", 2, x.cell(8, 0));
        Checks.due("acts of play", 5, x.account(0));
        Checks.due("acts to undo", 5, x.count(8));
        Checks.due("repeats", 7, Checks.played(x, "repeat 2{look;repeat 2{repeat 1{look;};};};look;repeat 9{};"));
        Checks.due("acts of play", 12, x.account(0));
        x.truncate(0);
        CaptionLoom y = Checks.loaded("loom 8 6;caption a at 0 0 in 1;");
        Checks.due("weave blind", 1, Checks.played(y, "weave 1 blind;"));
        Checks.due("blind cell", 1, y.cell(7, 0));
        Checks.due("blind cell", 0, y.cell(0, 0));
        Checks.due("right", 2, Checks.played(y, "unpick 1;weave 1;"));
        Checks.due("right cell", 1, y.cell(0, 0));
    }

    private static void playStops() {
        CaptionLoom x = new CaptionLoom();
        Checks.due("play stops at what is refused", 2, Checks.played(x, "beat;weave 7;beat;look;"));
        Checks.due("its refusal", 1, x.account(1));
        Checks.due("its acts", 2, x.account(0));
        Checks.due("errorCode", 0, x.errorCode());
        Checks.due("play of 20 * 20 looks", 200, Checks.played(x, "repeat 20 { repeat 20 { look; }; };"));
        Checks.due("acts", 202, x.account(0));
        Checks.due("play of 200 looks and a refusal", 200,
            Checks.played(x, "repeat 10 { repeat 20 { look; }; }; beat;"));
        Checks.due("the refusal was not tried", 1, x.account(1));
        Checks.due("play of 199 looks and a refusal", 199,
            Checks.played(x, "repeat 9 { repeat 20 { look; }; }; repeat 19 { look; }; beat; look;"));
        Checks.due("the refusal was tried", 2, x.account(1));
        Checks.due("repeats without acts", 1,
            Checks.played(x, "repeat 20 {repeat 20 {repeat 20 {};};};look;repeat 3 {};"));
        Checks.due("refused in a repeat", 2, Checks.played(x, "repeat 3 {unpick 3;};look;"));
        Checks.due("rows that are left", 2, x.count(2));
    }

    private static void wrongDesign(String text, int code, int position) {
        CaptionLoom x = new CaptionLoom();
        Checks.say(x, text);
        Checks.due("load of " + text, -1, x.load());
        Checks.due("errorCode of " + text, code, x.errorCode());
        Checks.due("errorPosition of " + text, position, x.errorPosition());
        Checks.due("nothing changes by " + text, 12, x.count(0));
        Checks.due("no caption by " + text, 0, x.count(4));
    }

    private static void designErrors() {
        wrongDesign("", 1, 0);
        wrongDesign("  \n", 1, 3);
        wrongDesign("Loom 12 8;", 1, 0);
        wrongDesign("looms 12 8;", 1, 0);
        wrongDesign("loo", 1, 0);
        wrongDesign("loom", 1, 4);
        wrongDesign("loom 12 8", 1, 9);
        wrongDesign("loom 12 8  ", 1, 11);
        wrongDesign("loom 7 8;", 2, 5);
        wrongDesign("loom 41 8;", 2, 5);
        wrongDesign("loom 12 5;", 2, 8);
        wrongDesign("loom 12 31;", 2, 8);
        wrongDesign("loom 12 4294967304;", 2, 8);
        wrongDesign("loom 12 18446744073709551624;", 2, 8);
        wrongDesign("loom a 8;", 1, 5);
        wrongDesign("loom 12 8,", 1, 9);
        wrongDesign("loom 12 8;;", 1, 10);
        wrongDesign("loom 12 8; }", 1, 11);
        wrongDesign("loom 12 8;\t", 1, 10);
        wrongDesign("loom 12 8;\u0001", 1, 10);
        wrongDesign("loom 12 8;caption\u0001at 0 0 in 1;", 1, 17);
        wrongDesign("loom 12 8;caption a at\u00020 0 in 1;", 1, 22);
        wrongDesign("loom 12 8;\u0000", 1, 10);
        wrongDesign("loom 12 8;\u00ff", 1, 10);
        wrongDesign("loom 12 8;stocks 1 1;", 1, 10);
        wrongDesign("loom 12 8;stock 7 1;", 2, 16);
        wrongDesign("loom 12 8;stock 6 10000;", 2, 18);
        wrongDesign("loom 12 8;stock 1 5;stock 1 5;", 3, 26);
        wrongDesign("loom 12 8;stock 1 5;stock 7 5;", 2, 26);
        wrongDesign("loom 12 8;stock 1 5;stock a 5;", 1, 26);
        wrongDesign("loom 12 8;stock 0 5;stock 1 10000;", 2, 28);
        wrongDesign("loom 12 8;delay 31;", 2, 16);
        wrongDesign("loom 12 8;delay 4;delay 4;", 3, 18);
        wrongDesign("loom 12 8;delay 4;delay", 3, 18);
        wrongDesign("loom 12 8;delay 4 delay", 1, 18);
    }

    private static void captionErrors() {
        wrongDesign("loom 12 8;caption 1 at 0 0 in 1;", 1, 18);
        wrongDesign("loom 12 8;caption abcdefghi at 0 0 in 1;", 2, 18);
        wrongDesign("loom 12 8;caption a front at 0 0 in 1;", 1, 20);
        wrongDesign("loom 12 8;caption a rear rear 0 0 in 1;", 1, 25);
        wrongDesign("loom 12 8;caption a at 12 0 in 1;", 2, 23);
        wrongDesign("loom 12 8;caption a at 0 8 in 1;", 2, 25);
        wrongDesign("loom 12 8;caption a at 0 4 in 1;", 4, 25);
        wrongDesign("loom 12 8;caption a at 10 0 in 1;", 4, 26);
        wrongDesign("loom 12 8;caption a rear at 10 0 in 1;", 4, 31);
        wrongDesign("loom 12 8;caption abc at 2 3 in 1;", 4, 27);
        wrongDesign("loom 12 8;caption a at 0 0 in 0;", 2, 30);
        wrongDesign("loom 12 8;caption a at 0 0 in 7;", 2, 30);
        wrongDesign("loom 12 8;caption a at 0 0 on 7;", 1, 27);
        wrongDesign("loom 12 8;caption a at 0 0 in 1;caption a at 2 3 in 1;", 5, 47);
        wrongDesign("loom 12 8;caption a at 9 0 in 1;caption a rear at 0 3 in 1;", 5, 52);
        wrongDesign("loom 12 8;caption a at 9 0 in 1;caption a rear at 0 4 in 1;", 4, 52);
        wrongDesign("loom 12 8;caption a at 9 0 in 1;caption a rear at 0 9 in 1;", 2, 52);
        Checks.loaded("loom 12 8;caption a at 9 0 in 1;caption a rear at 3 3 in 1;");
        String eight = "loom 40 10;" + "caption a at 0 0 in 1;caption a at 4 0 in 1;caption a at 8 0 in 1;"
            + "caption a at 12 0 in 1;caption a at 16 0 in 1;caption a at 20 0 in 1;caption a at 24 0 in 1;";
        Checks.loaded(eight + "caption a rear at 0 5 in 1;");
        wrongDesign(eight + "caption a rear at 0 5 in 1; caption", 6, (eight + "caption a rear at 0 5 in 1; ").length());
        wrongDesign(eight + "caption a rear at 0 5 in 1; captions", 1,
            (eight + "caption a rear at 0 5 in 1; ").length());
    }

    private static void wrongScript(String text, int code, int position) {
        CaptionLoom x = new CaptionLoom();
        Checks.say(x, text);
        Checks.due("play of " + text, -1, x.play());
        Checks.due("errorCode of " + text, code, x.errorCode());
        Checks.due("errorPosition of " + text, position, x.errorPosition());
        Checks.due("nothing is done by " + text, 0, x.account(0));
        Checks.due("the text is empty", 0, x.truncate(0));
        Checks.dueArgument("the text is empty", () -> x.truncate(1));
    }

    private static void scriptErrors() {
        wrongScript("look", 1, 4);
        wrongScript("look look", 1, 5);
        wrongScript("look; weav", 1, 6);
        wrongScript(";", 1, 0);
        wrongScript("}", 1, 0);
        wrongScript("look;}", 1, 5);
        wrongScript("pass 7 0 0;", 2, 5);
        wrongScript("pass 6 12 0;", 2, 7);
        wrongScript("pass 6 0 12;", 2, 9);
        wrongScript("pass 6 5 4;", 2, 9);
        wrongScript("pass 6 5;", 1, 8);
        wrongScript("beat 1;", 1, 5);
        wrongScript("weave 0;", 2, 6);
        wrongScript("weave 31;", 2, 6);
        wrongScript("weave blind;", 1, 6);
        wrongScript("weave 1 blind blind;", 1, 14);
        wrongScript("unpick 31;", 2, 7);
        wrongScript("unpick 1 blind;", 1, 9);
        wrongScript("repeat 0 {};", 2, 7);
        wrongScript("repeat 21 {};", 2, 7);
        wrongScript("repeat 2 look;", 1, 9);
        wrongScript("repeat 2 {", 1, 10);
        wrongScript("repeat 2 {look}", 1, 14);
        wrongScript("repeat 2 {look;}", 1, 16);
        wrongScript("repeat 2 {look;} look;", 1, 17);
        wrongScript("repeat 2 {look;};};", 1, 17);
        wrongScript("repeat 2 {;};", 1, 10);
        wrongScript("beat;repeat 1{repeat 1{repeat 1{repeat 1{};};};};", 6, 32);
        wrongScript("repeat 1{repeat 1{repeat 1{look;repeat", 6, 32);
        CaptionLoom x = new CaptionLoom();
        Checks.due("unpick 0", 2, Checks.played(x, "unpick 0;repeat 1{repeat 1{repeat 1{look;};};};"));
        Checks.due("a run of digits", 1, Checks.played(x, "unpick 00000000000000000000000000000;"));
        Checks.due("to as from", 1, Checks.played(x, "pass 6 11 11;"));
        Checks.due("weave 30 is refused, no error", 0, Checks.played(x, "weave 30;"));
        Checks.due("its reason", 1, x.account(3));
    }

    private static void commandLimits() {
        String thirty = "look;".repeat(30);
        CaptionLoom x = new CaptionLoom();
        Checks.due("30 commands", 30, Checks.played(x, thirty));
        wrongScript(thirty + "look;", 6, 150);
        wrongScript(thirty + "repeat", 6, 150);
        wrongScript(thirty + "looks", 1, 150);
        wrongScript(thirty + "7", 1, 150);
        Checks.due("30 with the repeat", 58, Checks.played(x, "repeat 2{" + "look;".repeat(29) + "};"));
        wrongScript("repeat 2{" + "look;".repeat(30) + "};", 6, 154);
        wrongScript("repeat 2{" + "look;".repeat(29) + "};beat;", 6, 156);
    }

    private static void latestError() {
        CaptionLoom x = new CaptionLoom();
        Checks.due("wrong", -1, Checks.played(x, " weave 31;"));
        Checks.due("its code", 2, x.errorCode());
        x.beat();
        x.undo();
        x.save(0);
        x.restore(0);
        Checks.dueArgument("add of no word", () -> x.add(0, 0, 0, 1));
        Checks.due("the code stays", 2, x.errorCode());
        Checks.due("the position stays", 7, x.errorPosition());
        Checks.due("right", 0, x.play());
        Checks.due("no code", 0, x.errorCode());
        Checks.due("no position", -1, x.errorPosition());
        Checks.due("wrong", -1, Checks.played(x, " weave 31;"));
        Checks.say(x, "loom 12 8;");
        Checks.due("right", 0, x.load());
        Checks.due("no code", 0, x.errorCode());
        Checks.due("no position", -1, x.errorPosition());
    }
}
