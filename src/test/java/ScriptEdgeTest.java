/** The edges of promise 5: scripts. A ^ in a script stands ahead of the token that is wrong. */
public final class ScriptEdgeTest {
    public static void main(String[] args) {
        emptyScripts();
        passNumbers();
        rowNumbers();
        numbersOfEachCommand();
        times();
        commandLimit();
        repeatsInside();
        braces();
        textEnds();
        tokensNotAllowed();
        stopsAtRefusal();
        stopsAtTwoHundred();
        repeats();
        actsOfTheirOwn();
        textBuffer();
        Checks.endEdges(5, 5);
    }

    private static void emptyScripts() {
        Checks.edge(5, "a script may be empty", () -> {
            Checks.scriptDoes(0, "");
            Checks.scriptDoes(0, " \n ");
        });
        Checks.edge(5, "there is no empty command", () -> {
            Checks.scriptError(1, "^;");
            Checks.scriptError(1, "look;^;");
        });
    }

    private static void passNumbers() {
        Checks.edge(5, "the COLOUR of pass is 0 at least", () -> {
            CaptionLoom x = Checks.scriptDoes(1, "pass 0 0 0;");
            Checks.due("cell", 0, x.cell(11, 0));
        });
        Checks.edge(5, "the COLOUR of pass is 6 at most", () -> {
            Checks.scriptError(2, "pass ^7 0 0;");
            Checks.due("cell", 6, Checks.scriptDoes(1, "pass 6 0 0;").cell(11, 0));
        });
        Checks.edge(5, "FROM is WIDTH - 1 at most", () -> {
            Checks.scriptError(2, "pass 1 ^12 12;");
            Checks.due("cell", 1, Checks.scriptDoes(1, "pass 1 11 11;").cell(0, 0));
        });
        Checks.edge(5, "TO is WIDTH - 1 at most", () -> {
            Checks.scriptError(2, "pass 1 0 ^12;");
            Checks.due("cells", 12, Checks.scriptDoes(1, "pass 1 0 11;").count(3));
        });
        Checks.edge(5, "TO is FROM at least", () -> {
            Checks.scriptError(2, "pass 1 5 ^4;");
            Checks.due("cells", 1, Checks.scriptDoes(1, "pass 1 5 5;").count(3));
        });
        Checks.edge(5, "WIDTH is that of the loom as it is", () -> {
            CaptionLoom x = Checks.loaded("loom 8 6;");
            Checks.due("play to the warp 8", -1, Checks.played(x, "pass 1 0 8;"));
            Checks.due("its error", 2, x.errorCode());
            Checks.due("play to the warp 7", 1, Checks.played(x, "pass 1 0 7;"));
            CaptionLoom y = Checks.loaded("loom 40 6;");
            Checks.due("play to the warp 40", -1, Checks.played(y, "pass 1 0 40;"));
            Checks.due("play to the warp 39", 1, Checks.played(y, "pass 1 0 39;"));
        });
        Checks.edge(5, "numbers may be of any length: no wrap-around", () -> {
            Checks.scriptError(2, "pass ^4294967296 0 0;");
            Checks.scriptError(2, "weave ^4294967297;");
            Checks.scriptError(2, "unpick ^18446744073709551616;");
            Checks.scriptError(2, "repeat ^" + "1".repeat(200) + "{};");
            Checks.scriptDoes(1, "weave " + "0".repeat(200) + "1;");
        });
    }

    private static void rowNumbers() {
        Checks.edge(5, "the ROWS of weave are 1 at least", () -> {
            Checks.scriptError(2, "weave ^0;");
            Checks.due("rows", 1, Checks.scriptDoes(1, "weave 1;").count(2));
        });
        Checks.edge(5, "the ROWS of weave are 30 at most", () -> {
            Checks.scriptError(2, "weave ^31;");
            Checks.due("refused, as there are 8", 1, Checks.scriptDoes(0, "weave 30;").account(3));
        });
        Checks.edge(5, "the ROWS of unpick are 0 at least", () -> {
            Checks.scriptDoes(1, "unpick 0;");
            Checks.scriptError(1, "unpick^;");
        });
        Checks.edge(5, "the ROWS of unpick are 30 at most", () -> {
            Checks.scriptError(2, "unpick ^31;");
            Checks.due("refused, as there are none", 1, Checks.scriptDoes(0, "unpick 30;").account(3));
        });
        Checks.edge(5, "blind may stand once, behind the ROWS of weave", () -> {
            Checks.scriptDoes(1, "weave 1 blind;");
            Checks.scriptError(1, "weave 1 blind ^blind;");
            Checks.scriptError(1, "weave ^blind;");
            Checks.scriptError(1, "unpick 0 ^blind;");
        });
    }

    private static void numbersOfEachCommand() {
        Checks.edge(5, "each command keeps its own numbers", () -> {
            CaptionLoom x = Checks.scriptDoes(4, "pass 1 2 5;pass 2 9 11;weave 3;unpick 1;");
            Checks.due("warp 1", 0, x.cell(10, 0));
            Checks.due("warp 2", 1, x.cell(9, 0));
            Checks.due("warp 5", 1, x.cell(6, 0));
            Checks.due("warp 6", 0, x.cell(5, 0));
            Checks.due("warp 9", 2, x.cell(2, 0));
            Checks.due("warp 11", 2, x.cell(0, 0));
            Checks.due("finished rows", 2, x.count(2));
        });
        Checks.edge(5, "the last one of 30 commands keeps its own numbers", () -> {
            CaptionLoom x = Checks.scriptDoes(30, "pass 1 0 0;".repeat(29) + "pass 6 7 11;");
            Checks.due("cells", 6, x.count(3));
            Checks.due("warp 7", 6, x.cell(4, 0));
            Checks.due("warp 11", 6, x.cell(0, 0));
        });
        Checks.edge(5, "the last one of 30 commands, inside repeats", () -> {
            CaptionLoom x = Checks.scriptDoes(28, "repeat 1{};repeat 1{"
                + "pass 1 0 0;".repeat(26) + "pass 6 7 11;};look;");
            Checks.due("cells", 6, x.count(3));
        });
        Checks.edge(5, "weave 1 is woven right, weave 1 blind is woven blind", () -> {
            CaptionLoom x = Checks.loaded("loom 12 8;caption l at 0 0 in 1;");
            Checks.due("right", 1, Checks.played(x, "weave 1;"));
            Checks.due("column 0", 1, x.cell(0, 0));
            Checks.due("blind", 1, Checks.played(x, "weave 1 blind;"));
            Checks.due("column 0", 0, x.cell(0, 1));
            Checks.due("column 11", 1, x.cell(11, 1));
            Checks.due("right", 2, Checks.played(x, "weave 1;weave 1;"));
            Checks.due("column 0", 1, x.cell(0, 3));
        });
    }

    private static void times() {
        Checks.edge(5, "TIMES is 1 at least", () -> {
            Checks.scriptError(2, "repeat ^0 {look;};");
            Checks.scriptDoes(1, "repeat 1 {look;};");
        });
        Checks.edge(5, "TIMES is 20 at most", () -> {
            Checks.scriptError(2, "repeat ^21 {look;};");
            Checks.scriptDoes(20, "repeat 20 {look;};");
        });
    }

    private static void commandLimit() {
        Checks.edge(5, "30 commands are allowed, the first word of a 31st is 6", () -> {
            Checks.scriptDoes(30, "look;".repeat(30));
            Checks.scriptError(6, "look;".repeat(30) + "^look;");
            Checks.scriptError(6, "look;".repeat(30) + "^repeat 1{};");
            Checks.scriptError(6, "look;".repeat(30) + " ^beat");
        });
        Checks.edge(5, "of several codes the least: another token behind 30 commands is 1", () -> {
            Checks.scriptError(1, "look;".repeat(30) + "^looks;");
            Checks.scriptError(1, "look;".repeat(30) + "^7");
            Checks.scriptError(1, "look;".repeat(30) + "^}");
        });
        Checks.edge(5, "those in braces count, too", () -> {
            Checks.scriptDoes(29, "repeat 1{" + "look;".repeat(29) + "};");
            Checks.scriptError(6, "repeat 1{" + "look;".repeat(29) + "^look;};");
            Checks.scriptError(6, "repeat 1{" + "look;".repeat(29) + "};^look;");
            Checks.scriptError(6, "repeat 2{" + "look;".repeat(14) + "};repeat 3{" + "look;".repeat(14) + "^look;};");
        });
        Checks.edge(5, "the commands of a script before do not count", () -> {
            CaptionLoom x = Checks.scriptDoes(30, "look;".repeat(30));
            Checks.due("30 again", 30, Checks.played(x, "look;".repeat(30)));
            Checks.due("with an error behind them", -1, Checks.played(x, "look;".repeat(30) + "}"));
            Checks.due("30 again", 30, Checks.played(x, "look;".repeat(30)));
        });
        Checks.edge(5, "30 repeats are allowed", () -> {
            Checks.scriptDoes(0, "repeat 9{};".repeat(30));
            Checks.scriptError(6, "repeat 9{};".repeat(30) + "^repeat 9{};");
        });
    }

    private static void repeatsInside() {
        Checks.edge(5, "a repeat inside two others is allowed", () ->
            Checks.scriptDoes(8, "repeat 2{repeat 2{repeat 2{look;};};};"));
        Checks.edge(5, "a repeat inside three others is 6", () -> {
            Checks.scriptError(6, "repeat 2{repeat 2{repeat 2{^repeat 2{look;};};};};");
            Checks.scriptError(6, "repeat 2{repeat 2{repeat 2{look;^repeat");
        });
        Checks.edge(5, "a repeat behind three others that are closed", () -> {
            Checks.scriptDoes(2, "repeat 1{repeat 1{repeat 1{};repeat 1{look;};};repeat 1{repeat 1{look;};};};");
            Checks.scriptError(6, "repeat 1{repeat 1{repeat 1{};repeat 1{^repeat 1{};};};};");
        });
        Checks.edge(5, "of several codes the least: another word inside three repeats is 1", () ->
            Checks.scriptError(1, "repeat 1{repeat 1{repeat 1{^repeats"));
    }

    private static void braces() {
        Checks.edge(5, "a closing brace without a repeat", () -> {
            Checks.scriptError(1, "^}");
            Checks.scriptError(1, "look;^};");
            Checks.scriptError(1, "repeat 1{};^};");
        });
        Checks.edge(5, "an opening brace stands behind TIMES alone", () -> {
            Checks.scriptError(1, "^{");
            Checks.scriptError(1, "repeat 1 ^look;");
            Checks.scriptError(1, "repeat ^{look;};");
            Checks.scriptError(1, "repeat 1{^{look;};};");
        });
        Checks.edge(5, "a semicolon stands behind a closing brace", () -> {
            Checks.scriptError(1, "repeat 1{look;}^look;");
            Checks.scriptError(1, "repeat 1{repeat 1{look;}^};");
            Checks.scriptError(1, "repeat 1{look^};");
        });
        Checks.edge(5, "the braces of a script before are forgotten", () -> {
            CaptionLoom x = new CaptionLoom();
            Checks.due("three that are open", -1, Checks.played(x, "repeat 2{repeat 2{repeat 2{look;"));
            Checks.due("look", 1, Checks.played(x, "look;"));
            Checks.due("three anew", 8, Checks.played(x, "repeat 2{repeat 2{repeat 2{look;};};};"));
            Checks.due("none is open", -1, Checks.played(x, "look;}"));
            Checks.due("a repeat behind a command", 3, Checks.played(x, "look;repeat 2{look;};"));
            Checks.due("a repeat ahead of all", 3, Checks.played(x, "repeat 3{look;};"));
        });
        Checks.edge(5, "repeats without another command, as many as there may be", () -> {
            String nothing = "repeat 20{repeat 20{repeat 20{};};};".repeat(9);
            Checks.scriptDoes(1, nothing + "look;");
            Checks.scriptDoes(2, "look;" + nothing + "look;");
        });
        Checks.edge(5, "the script in braces may be empty", () -> {
            Checks.scriptDoes(0, "repeat 20 {};");
            Checks.scriptDoes(1, "repeat 20 { repeat 20 { repeat 20 { } ; } ; } ; look;");
        });
    }

    /** Where a text ends too early, its end is the position, with the blanks ahead of it. */
    private static void textEnds() {
        String[] tokens = {"pass", "1", "2", "3", ";", "weave", "1", "blind", ";", "repeat", "2", "{", "beat", ";",
            "}", ";", "unpick", "0", ";", "look", ";"};
        for (String blanks : new String[] {" ", " \n "}) {
            StringBuilder text = new StringBuilder();
            int depth = 0;
            String before = ";";
            for (String token : tokens) {
                String start = text.toString();
                if (depth == 0 && before.equals(";")) {
                    Checks.edge(5, "a script may end behind '" + start + "'", () -> {
                        CaptionLoom x = new CaptionLoom();
                        Checks.due("play", true, Checks.played(x, start) >= 0);
                        Checks.due("errorCode", 0, x.errorCode());
                    });
                } else {
                    Checks.edge(5, "a script may not end behind '" + start + "'", () ->
                        Checks.scriptError(1, start + "^"));
                }
                depth += token.equals("{") ? 1 : token.equals("}") ? -1 : 0;
                before = token;
                text.append(token).append(blanks);
            }
        }
        Checks.edge(5, "a script that ends at the byte 400", () -> {
            Checks.scriptDoes(1, "look" + " ".repeat(395) + ";");
            Checks.scriptError(1, "look" + " ".repeat(396) + "^");
        });
    }

    private static void tokensNotAllowed() {
        Checks.edge(5, "a byte that belongs to no token", () -> {
            Checks.scriptError(1, "look^,");
            Checks.scriptError(1, "look;^\t");
            Checks.scriptError(1, "pass 1 ^-1 0;");
            Checks.scriptError(1, "^Look;");
        });
        Checks.edge(5, "a word that is no command", () -> {
            Checks.scriptError(1, "^loo;");
            Checks.scriptError(1, "^looks;");
            Checks.scriptError(1, "^loom 12 8;");
            Checks.scriptError(1, "^blind;");
            Checks.scriptError(1, "^delay 3;");
        });
        for (String word : new String[] {"pass 1 0 0", "beat", "weave 1", "unpick 0", "look", "repeat 1{}"}) {
            Checks.edge(5, "a word like " + word + ", but for its first letter", () -> {
                Checks.scriptError(1, "^z" + word.substring(1) + ";");
                Checks.due("play", true, Checks.played(new CaptionLoom(), word + ";") >= 0);
            });
        }
        Checks.edge(5, "a word like blind, but for its first letter, or its last one", () -> {
            Checks.scriptError(1, "weave 1 ^slind;");
            Checks.scriptError(1, "weave 1 ^bline;");
            Checks.scriptError(1, "weave 1 ^blin;");
            Checks.scriptError(1, "weave 1 ^blinds;");
        });
        Checks.edge(5, "a number where none may stand", () -> {
            Checks.scriptError(1, "^1;");
            Checks.scriptError(1, "beat ^1;");
            Checks.scriptError(1, "look ^99;");
            Checks.scriptError(1, "pass 1 2 3 ^4;");
        });
        Checks.edge(5, "no blank need stand between a word, a number and a brace", () ->
            Checks.scriptDoes(4, "pass1 2 3;weave1blind;repeat2{look;};"));
    }

    private static void stopsAtRefusal() {
        Checks.edge(5, "it stops at the first one that is refused: the first of all", () -> {
            CaptionLoom x = Checks.scriptDoes(0, "unpick 1;look;");
            Checks.due("acts", 0, x.account(0));
            Checks.due("refusals", 1, x.account(3));
        });
        Checks.edge(5, "it stops at the first one that is refused: a later one", () -> {
            CaptionLoom x = Checks.scriptDoes(2, "look;look;unpick 1;look;unpick 1;");
            Checks.due("acts", 2, x.account(0));
            Checks.due("refusals", 1, x.account(3));
        });
        Checks.edge(5, "it stops at the first one that is refused: the last one", () -> {
            CaptionLoom x = Checks.scriptDoes(1, "look;unpick 1;");
            Checks.due("refusals", 1, x.account(3));
        });
        Checks.edge(5, "it stops at the first one that is refused: inside a repeat", () -> {
            CaptionLoom x = Checks.scriptDoes(8, "repeat 3{repeat 3{beat;};};look;");
            Checks.due("refusals", 1, x.account(1));
            Checks.due("acts", 8, x.account(0));
        });
        Checks.edge(5, "each command may be the one that is refused", () -> {
            Checks.due("pass", 1, Checks.scriptDoes(1, "weave 8;pass 1 0 0;look;").account(1));
            Checks.due("beat", 1, Checks.scriptDoes(1, "weave 8;beat;look;").account(1));
            Checks.due("weave", 1, Checks.scriptDoes(1, "weave 8;weave 1;look;").account(3));
            Checks.due("unpick", 1, Checks.scriptDoes(1, "weave 8;unpick 9;look;").account(3));
        });
        Checks.edge(5, "an act that answers 0 is no refusal", () -> {
            CaptionLoom x = Checks.loaded("loom 12 8;stock 1 1;");
            Checks.due("play", 5, Checks.played(x, "pass 1 0 0;unpick 0;unpick 0;beat;look;"));
        });
    }

    private static void stopsAtTwoHundred() {
        Checks.edge(5, "199 commands, and one that is refused", () -> {
            CaptionLoom x = Checks.scriptDoes(199, "repeat 10{repeat 19{look;};};repeat 9{look;};unpick 9;");
            Checks.due("refusals", 1, x.account(3));
        });
        Checks.edge(5, "200 commands, and one that would be refused", () -> {
            CaptionLoom x = Checks.scriptDoes(200, "repeat 10{repeat 20{look;};};unpick 9;");
            Checks.due("refusals", 0, x.account(3));
        });
        Checks.edge(5, "201 commands", () -> {
            CaptionLoom x = Checks.scriptDoes(200, "repeat 10{repeat 20{look;};};look;");
            Checks.due("acts", 200, x.account(0));
        });
        Checks.edge(5, "200 commands of 8000", () -> {
            CaptionLoom x = Checks.scriptDoes(200, "repeat 20{repeat 20{repeat 20{look;};};};");
            Checks.due("acts", 200, x.account(0));
        });
        Checks.edge(5, "it stops within a repeat", () -> {
            // of 67 times three commands the last time does two alone: pass and beat, not unpick
            CaptionLoom x = Checks.scriptDoes(200, "repeat 20{repeat 20{pass 1 0 0;beat;unpick 1;};};");
            Checks.due("finished rows", 1, x.count(2));
        });
    }

    private static void repeats() {
        Checks.edge(5, "repeat does not count", () -> {
            CaptionLoom x = Checks.scriptDoes(1, "repeat 1{look;};");
            Checks.due("acts", 1, x.account(0));
            Checks.due("to undo", 1, x.count(8));
        });
        Checks.edge(5, "repeat does its script TIMES times, each time anew", () ->
            Checks.scriptDoes(14, "repeat 2{look;repeat 3{look;repeat 1{look;};};};"));
        Checks.edge(5, "what stands behind a repeat is done once", () -> {
            CaptionLoom x = Checks.scriptDoes(7, "repeat 3{beat;pass 1 0 0;};beat;");
            Checks.due("finished rows", 4, x.count(2));
        });
        Checks.edge(5, "a script is forgotten by the next one", () -> {
            CaptionLoom x = Checks.scriptDoes(6, "repeat 3{look;look;};");
            Checks.due("play", 2, Checks.played(x, "look;look;"));
            Checks.due("play", 0, Checks.played(x, ""));
        });
    }

    private static void actsOfTheirOwn() {
        Checks.edge(5, "each command is an act of its own", () -> {
            CaptionLoom x = Checks.scriptDoes(3, "weave 1;look;beat;");
            Checks.due("acts", 3, x.account(0));
            Checks.due("undo", 2, x.undo());
            Checks.due("finished rows", 1, x.count(2));
            Checks.due("LOOKED", 1, x.count(6));
        });
        Checks.edge(5, "with an error nothing is done", () -> {
            CaptionLoom x = new CaptionLoom();
            Checks.due("play", -1, Checks.played(x, "weave 1;look;beat"));
            Checks.due("acts", 0, x.account(0));
            Checks.due("finished rows", 0, x.count(2));
            Checks.due("to undo", 0, x.count(8));
        });
    }

    private static void textBuffer() {
        Checks.edge(5, "the text buffer is empty afterwards", () -> Checks.dueNoText(Checks.scriptDoes(1, "look;")));
        Checks.edge(5, "the text buffer is empty afterwards, also if there is an error", () -> {
            CaptionLoom x = new CaptionLoom();
            Checks.due("play", -1, Checks.played(x, "look"));
            Checks.dueNoText(x);
        });
        Checks.edge(5, "the text buffer is empty afterwards, also if a command is refused", () ->
            Checks.dueNoText(Checks.scriptDoes(0, "unpick 1;")));
    }
}
