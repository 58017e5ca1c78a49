/** The edges of promises 6 and 7: the latest error. */
public final class ErrorEdgeTest {
    public static void main(String[] args) {
        noCall();
        eachCode();
        positions();
        latest();
        whatLeavesIt();
        Checks.endEdges(6, 7);
    }

    private static void dueError(CaptionLoom x, int code, int position) {
        Checks.due("errorCode", code, x.errorCode());
        Checks.due("errorPosition", position, x.errorPosition());
    }

    private static CaptionLoom withError() {
        CaptionLoom x = new CaptionLoom();
        Checks.due("play", -1, Checks.played(x, "  weave 31;"));
        return x;
    }

    private static void noCall() {
        Checks.edge(6, "0 if there was no such call", () -> Checks.due("code", 0, new CaptionLoom().errorCode()));
        Checks.edge(7, "NONE if there was no such call", () ->
            Checks.due("position", -1, new CaptionLoom().errorPosition()));
        Checks.edge(6, "0 if a load had no error", () ->
            Checks.due("code", 0, Checks.loaded("loom 8 6;").errorCode()));
        Checks.edge(7, "NONE if a load had no error", () ->
            Checks.due("position", -1, Checks.loaded("loom 8 6;").errorPosition()));
        Checks.edge(6, "0 if a play had no error, though a command was refused", () -> {
            CaptionLoom x = new CaptionLoom();
            Checks.due("play", 0, Checks.played(x, "unpick 3;"));
            Checks.due("code", 0, x.errorCode());
        });
        Checks.edge(7, "NONE if a play had no error, though a command was refused", () -> {
            CaptionLoom x = new CaptionLoom();
            Checks.due("play", 0, Checks.played(x, "unpick 3;"));
            Checks.due("position", -1, x.errorPosition());
        });
    }

    private static void eachCode() {
        Checks.edge(6, "1: a token that is not allowed", () -> Checks.designError(1, "loom 12 ^;"));
        Checks.edge(6, "1: a byte that belongs to no token", () -> Checks.designError(1, "loom 12 ^# 8;"));
        Checks.edge(6, "1: a text that ends too early", () -> Checks.designError(1, "loom 12 ^"));
        Checks.edge(6, "2: a number out of its range", () -> Checks.designError(2, "loom ^1 8;"));
        Checks.edge(6, "2: a WORD of 9 letters", () ->
            Checks.designError(2, "loom 12 8;caption ^aaaaaaaaa at 0 0 in 1;"));
        Checks.edge(6, "3: a second stock", () -> Checks.designError(3, "loom 12 8;stock 2 2;stock ^2 2;"));
        Checks.edge(6, "3: a second delay", () -> Checks.designError(3, "loom 12 8;delay 2;^delay 2;"));
        Checks.edge(6, "4: a box off the loom", () -> Checks.designError(4, "loom 8 8;caption a at 6 ^0 in 1;"));
        Checks.edge(6, "5: a box on another one", () ->
            Checks.designError(5, "loom 8 8;caption a at 0 0 in 1;caption a at 0 ^3 in 1;"));
        Checks.edge(6, "6: a 31st command", () -> Checks.scriptError(6, "beat;".repeat(30) + "^beat;"));
        Checks.edge(6, "6: a repeat inside three others", () ->
            Checks.scriptError(6, "repeat 1{repeat 1{repeat 1{^repeat 1{};};};};"));
    }

    private static void positions() {
        Checks.edge(7, "the first byte of the text", () -> Checks.scriptError(1, "^12;"));
        Checks.edge(7, "the first byte of the token, behind blanks", () -> Checks.scriptError(1, " \n ^12;"));
        Checks.edge(7, "the length of an empty text", () -> Checks.designError(1, "^"));
        Checks.edge(7, "the length of the text, with the blanks at its end", () -> Checks.scriptError(1, "beat \n ^"));
        Checks.edge(7, "the last byte of a full text", () -> Checks.scriptError(1, " ".repeat(399) + "^}"));
        Checks.edge(7, "the length of a full text", () -> Checks.scriptError(1, "beat" + " ".repeat(396) + "^"));
        Checks.edge(7, "the first byte of a token that reaches to the end of a full text", () ->
            Checks.designError(1, " ".repeat(390) + "^looooooooo"));
    }

    private static void latest() {
        Checks.edge(6, "of the latest: a load behind a play", () -> {
            CaptionLoom x = withError();
            dueError(x, 2, 8);
            Checks.say(x, "loom 12 8;}");
            Checks.due("load", -1, x.load());
            Checks.due("code", 1, x.errorCode());
        });
        Checks.edge(7, "of the latest: a load behind a play", () -> {
            CaptionLoom x = withError();
            Checks.say(x, "loom 12 8;}");
            Checks.due("load", -1, x.load());
            Checks.due("position", 10, x.errorPosition());
        });
        Checks.edge(6, "of the latest: a play without an error", () -> {
            CaptionLoom x = withError();
            Checks.due("play", 0, x.play());
            dueError(x, 0, -1);
        });
        Checks.edge(7, "of the latest: a load without an error", () -> {
            CaptionLoom x = withError();
            Checks.say(x, "loom 12 8;");
            Checks.due("load", 0, x.load());
            dueError(x, 0, -1);
        });
        Checks.edge(7, "of the latest: a play behind a load", () -> {
            CaptionLoom x = new CaptionLoom();
            Checks.due("load of nothing", -1, x.load());
            dueError(x, 1, 0);
            Checks.due("play", -1, Checks.played(x, "pass 1 2 13;"));
            dueError(x, 2, 9);
        });
    }

    private static void whatLeavesIt() {
        Checks.edge(6, "an add that throws is no such call", () -> {
            CaptionLoom x = withError();
            Checks.dueArgument("add", () -> x.add(0, 0, 0, 1));
            dueError(x, 2, 8);
        });
        Checks.edge(6, "undo leaves the latest error", () -> {
            CaptionLoom x = new CaptionLoom();
            x.beat();
            Checks.played(x, "weave 0;");
            Checks.due("undo", 0, x.undo());
            dueError(x, 2, 6);
        });
        Checks.edge(7, "save and restore leave the latest error", () -> {
            CaptionLoom x = new CaptionLoom();
            x.save(0);
            Checks.played(x, "weave 0;");
            x.save(1);
            x.restore(0);
            dueError(x, 2, 6);
            Checks.due("play", 0, x.play());
            x.restore(1);
            dueError(x, 0, -1);
        });
    }
}
