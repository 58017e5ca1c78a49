/** The edges of promises 15 to 20: what fits and is alike, joins, slits, accounts. */
public final class ClothEdgeTest {
    public static void main(String[] args) {
        fits();
        fitsLetters();
        isAlike();
        isAlikeBox();
        joinsOfRow();
        joinsBeside();
        slitsLength();
        slitsRows();
        longestSlit();
        accountWhat();
        accountActs();
        accountMinutes();
        Checks.endEdges(15, 20);
    }

    private static void fits() {
        Checks.edge(15, "whether all rows are finished: one is not", () -> {
            CaptionLoom x = new CaptionLoom();
            Checks.due("without rows", false, x.fits());
            x.weave(7, false);
            x.pass(0, 0, 11);
            Checks.due("with 7 of 8, the last one full", false, x.fits());
            x.beat();
            Checks.due("with 8 of 8", true, x.fits());
        });
        Checks.edge(15, "without captions, if all rows are finished, mistakes or not", () -> {
            CaptionLoom x = Checks.loaded("loom 8 6;");
            x.pass(1, 0, 7);
            x.weave(6, false);
            Checks.due("fits", true, x.fits());
            x.unpick(1);
            Checks.due("fits", false, x.fits());
        });
        Checks.edge(15, "the letters are read, but a row is not finished", () -> {
            CaptionLoom x = Checks.loaded("loom 8 6;caption i at 0 0 in 1;");
            x.weave(5, false);
            Checks.due("read", 1, x.caption(0, 6));
            Checks.due("fits", false, x.fits());
            x.beat();
            Checks.due("fits", true, x.fits());
        });
    }

    private static void fitsLetters() {
        Checks.edge(15, "each letter of each caption: the last letter of the last caption", () -> {
            CaptionLoom x = Checks.loaded("loom 12 10;caption ii at 0 0 in 1;caption ii at 0 5 in 2;");
            x.weave(9, false);
            Checks.passColumn(x, 2, 7);
            x.weave(1, false);
            Checks.due("a cell beside it", true, x.fits());
            x.unpick(1);
            Checks.passColumn(x, 1, 6);
            x.weave(1, false);
            Checks.due("a cell of it", false, x.fits());
        });
        Checks.edge(15, "each letter of each caption: the first letter of the first caption", () -> {
            CaptionLoom x = Checks.loaded("loom 12 10;caption ii at 0 0 in 1;caption ii at 0 5 in 2;");
            Checks.passColumn(x, 2, 0);
            x.weave(10, false);
            Checks.due("fits", false, x.fits());
        });
        Checks.edge(15, "a caption that was dropped has no letters", () -> {
            CaptionLoom x = Checks.loaded("loom 12 8;caption l at 0 0 in 1;caption l at 4 0 in 1;");
            for (int row = 0; row < 8; row++) {
                x.pass(0, 0, 7);
                x.weave(1, false);
            }
            Checks.due("with both", false, x.fits());
            x.drop(1);
            Checks.due("with the one that is read", true, x.fits());
        });
        Checks.edge(15, "as it is in its WORD: read turned is not enough", () -> {
            CaptionLoom x = Checks.loaded("loom 11 6;caption b at 4 0 in 1;");
            x.weave(6, true);
            Checks.due("read turned", 1, x.caption(0, 7));
            Checks.due("fits", false, x.fits());
        });
        Checks.edge(15, "mistakes that no letter shows", () -> {
            CaptionLoom x = Checks.loaded("loom 12 8;caption l at 0 0 in 1;");
            x.weave(2, false);
            Checks.passColumn(x, 2, 1);
            x.weave(6, false);
            Checks.due("mistakes", 1, x.mistakes(0));
            Checks.due("fits", true, x.fits());
        });
    }

    private static void isAlike() {
        Checks.edge(16, "no caption -1, and none behind the last one", () -> {
            CaptionLoom x = Checks.loaded("loom 12 8;caption a at 0 0 in 1;caption b at 4 0 in 1;");
            Checks.dueIndex("isAlike(-1)", () -> x.isAlike(-1));
            Checks.dueIndex("isAlike(2)", () -> x.isAlike(2));
            Checks.due("isAlike(0)", true, x.isAlike(0));
            Checks.due("isAlike(1)", false, x.isAlike(1));
        });
        Checks.edge(16, "no caption at all", () -> {
            CaptionLoom x = new CaptionLoom();
            Checks.dueIndex("isAlike(0)", () -> x.isAlike(0));
        });
    }

    private static void dueAlike(String word, boolean due) {
        for (String side : new String[] {"", " rear"}) {
            CaptionLoom x = Checks.loaded("loom 40 8;caption " + word + side + " at 1 1 in 2;");
            Checks.due("isAlike of " + word + side, due, x.isAlike(0));
        }
    }

    private static void isAlikeBox() {
        Checks.edge(16, "one letter", () -> {
            for (char letter = 'a'; letter <= 'z'; letter++) {
                dueAlike(String.valueOf(letter), "ahimotuvwxy".indexOf(letter) >= 0);
            }
        });
        Checks.edge(16, "two letters", () -> {
            dueAlike("bd", true);
            dueAlike("bb", false);
            dueAlike("ob", false);
            dueAlike("oa", false);
        });
        Checks.edge(16, "the letter in the middle has to be alike, too", () -> {
            dueAlike("bod", true);
            dueAlike("bbd", false);
        });
        Checks.edge(16, "eight letters", () -> {
            dueAlike("abpttqda", true);
            dueAlike("abpttqdb", false);
            dueAlike("abpttqba", false);
            dueAlike("abpotqda", false);
        });
        Checks.edge(16, "a short WORD behind a longer one", () -> {
            CaptionLoom x = Checks.loaded("loom 12 8;caption a at 0 0 in 1;");
            Checks.due("add", -6, Checks.added(x, "aa", 0, 0, 0, 1));
            Checks.due("add", 1, Checks.added(x, "b", 0, 4, 0, 1));
            Checks.due("b", false, x.isAlike(1));
            Checks.due("add", -6, Checks.added(x, "bb", 0, 0, 0, 1));
            Checks.due("add", 2, Checks.added(x, "a", 0, 8, 0, 1));
            Checks.due("a", true, x.isAlike(2));
        });
        Checks.edge(16, "whatever is woven", () -> {
            CaptionLoom x = Checks.loaded("loom 12 8;caption bd at 1 0 in 1;");
            Checks.due("ahead", true, x.isAlike(0));
            x.pass(3, 0, 4);
            x.weave(8, true);
            Checks.due("woven", true, x.isAlike(0));
        });
    }

    private static void joinsOfRow() {
        Checks.edge(17, "no row -1, and none at HEIGHT", () -> {
            CaptionLoom x = new CaptionLoom();
            x.weave(8, false);
            Checks.dueIndex("joins(-1)", () -> x.joins(-1));
            Checks.dueIndex("joins(8)", () -> x.joins(8));
            Checks.dueIndex("joins(MAX)", () -> x.joins(Integer.MAX_VALUE));
            Checks.dueIndex("joins(MIN)", () -> x.joins(Integer.MIN_VALUE));
            Checks.due("joins(0)", 0, x.joins(0));
            Checks.due("joins(7)", 0, x.joins(7));
        });
        Checks.edge(17, "NONE if it is not finished", () -> {
            CaptionLoom x = new CaptionLoom();
            x.beat();
            x.pass(0, 0, 11);
            Checks.due("finished", 0, x.joins(0));
            Checks.due("open, and full", -1, x.joins(1));
            Checks.due("above", -1, x.joins(2));
            Checks.due("the last one", -1, x.joins(7));
        });
    }

    private static void joinsBeside() {
        Checks.edge(17, "a join between the first two columns", () -> {
            CaptionLoom x = new CaptionLoom();
            Checks.passColumn(x, 1, 0);
            x.beat();
            Checks.due("joins", 1, x.joins(0));
        });
        Checks.edge(17, "a join between the last two columns", () -> {
            CaptionLoom x = new CaptionLoom();
            Checks.passColumn(x, 1, 11);
            x.beat();
            Checks.due("joins", 1, x.joins(0));
        });
        Checks.edge(17, "no wrap-around between the last column and the first one", () -> {
            CaptionLoom x = new CaptionLoom();
            x.pass(1, 0, 5);
            x.beat();
            Checks.due("joins of two halves", 1, x.joins(0));
        });
        Checks.edge(17, "the most joins: between all columns of the widest loom", () -> {
            CaptionLoom x = Checks.loaded("loom 40 6;");
            for (int warp = 0; warp < 40; warp += 2) {
                x.pass(1 + warp % 6, warp, warp);
            }
            x.beat();
            Checks.due("joins", 39, x.joins(0));
        });
        Checks.edge(17, "two colours that are no ground differ, too", () -> {
            CaptionLoom x = new CaptionLoom();
            x.pass(1, 0, 5);
            x.pass(2, 6, 11);
            x.beat();
            x.pass(1, 0, 5);
            x.pass(1, 6, 11);
            x.beat();
            Checks.due("of two colours", 1, x.joins(0));
            Checks.due("of one", 0, x.joins(1));
        });
    }

    /** A loom of 8 by 30 with a slit at the column 0 of so many rows. */
    private static CaptionLoom withSlit(int rows) {
        CaptionLoom x = Checks.loaded("loom 8 30;stock 0 9999;");
        for (int row = 0; row < rows; row++) {
            Checks.passColumn(x, 1, 0);
            x.beat();
        }
        return x;
    }

    private static void slitsLength() {
        Checks.edge(18, "length is 2 at least", () -> {
            CaptionLoom x = withSlit(2);
            Checks.dueArgument("slits(1)", () -> x.slits(1));
            Checks.dueArgument("slits(0)", () -> x.slits(0));
            Checks.dueArgument("slits(-1)", () -> x.slits(-1));
            Checks.due("slits(2)", 1, x.slits(2));
        });
        Checks.edge(18, "length is 30 at most, whatever HEIGHT is", () -> {
            CaptionLoom x = new CaptionLoom();
            Checks.dueArgument("slits(31)", () -> x.slits(31));
            Checks.dueArgument("slits(MAX)", () -> x.slits(Integer.MAX_VALUE));
            Checks.due("slits(30)", 0, x.slits(30));
        });
        for (int rows : new int[] {2, 3, 29, 30}) {
            Checks.edge(18, "at least so many rows, of a slit of " + rows, () -> {
                CaptionLoom x = withSlit(rows);
                for (int length = 2; length <= 30; length++) {
                    Checks.due("slits(" + length + ")", length <= rows ? 1 : 0, x.slits(length));
                }
            });
        }
    }

    private static void slitsRows() {
        Checks.edge(18, "a slit is of two or more rows", () -> {
            CaptionLoom x = withSlit(1);
            Checks.due("of one row", 0, x.slits(2));
            Checks.passColumn(x, 1, 0);
            Checks.due("of one row, and an open one", 0, x.slits(2));
            x.beat();
            Checks.due("of two rows", 1, x.slits(2));
        });
        Checks.edge(18, "as long as can be: a row without the join makes two", () -> {
            CaptionLoom x = withSlit(4);
            Checks.due("one of 4", 1, x.slits(2));
            x.beat();
            Checks.due("one of 4, a row above", 1, x.slits(2));
            Checks.passColumn(x, 1, 0);
            x.beat();
            Checks.due("one of 4, and a single row", 1, x.slits(2));
            Checks.passColumn(x, 1, 0);
            x.beat();
            Checks.due("one of 4, and one of 2", 2, x.slits(2));
            Checks.due("one of 4", 1, x.slits(3));
        });
        Checks.edge(18, "between the same two columns: joins aside make none", () -> {
            CaptionLoom x = new CaptionLoom();
            x.pass(1, 0, 3);
            x.beat();
            x.pass(1, 0, 4);
            x.beat();
            Checks.due("slits", 0, x.slits(2));
            x.pass(3, 0, 4);
            x.beat();
            Checks.due("slits", 1, x.slits(2));
        });
        Checks.edge(18, "between the first two columns, and between the last two", () -> {
            CaptionLoom x = new CaptionLoom();
            for (int row = 0; row < 2; row++) {
                Checks.passColumn(x, 1, 0);
                x.pass(2, 0, 0);
                x.beat();
            }
            Checks.due("slits", 2, x.slits(2));
        });
        Checks.edge(18, "no wrap-around between the last column and the first one", () -> {
            CaptionLoom x = new CaptionLoom();
            for (int row = 0; row < 2; row++) {
                x.pass(1, 0, 5);
                x.beat();
            }
            Checks.due("slits", 1, x.slits(2));
        });
    }

    private static void longestSlit() {
        Checks.edge(19, "0 if there is none: no rows", () -> {
            CaptionLoom x = new CaptionLoom();
            Checks.due("without rows", 0, x.longestSlit());
            x.weave(8, false);
            Checks.due("without joins", 0, x.longestSlit());
        });
        Checks.edge(19, "0 if there is none: joins of one row", () -> {
            CaptionLoom x = withSlit(1);
            Checks.due("one row", 0, x.longestSlit());
            x.beat();
            Checks.passColumn(x, 1, 0);
            x.beat();
            Checks.due("two rows, not one above the other", 0, x.longestSlit());
            Checks.passColumn(x, 1, 0);
            Checks.due("and an open one", 0, x.longestSlit());
            x.beat();
            Checks.due("two rows", 2, x.longestSlit());
        });
        Checks.edge(19, "the longest one of several", () -> {
            CaptionLoom x = withSlit(4);
            x.beat();
            for (int row = 0; row < 3; row++) {
                x.pass(1, 0, 0);
                x.beat();
            }
            Checks.due("4 and 3", 4, x.longestSlit());
            for (int row = 0; row < 2; row++) {
                x.pass(1, 0, 0);
                x.beat();
            }
            Checks.due("4 and 5", 5, x.longestSlit());
        });
        Checks.edge(19, "all rows of the highest loom", () -> {
            Checks.due("29", 29, withSlit(29).longestSlit());
            Checks.due("30", 30, withSlit(30).longestSlit());
        });
    }

    private static void accountWhat() {
        Checks.edge(20, "what is 0 at least", () -> {
            CaptionLoom x = new CaptionLoom();
            x.look();
            Checks.dueArgument("account(-1)", () -> x.account(-1));
            Checks.dueArgument("account(MIN)", () -> x.account(Integer.MIN_VALUE));
            Checks.due("account(0)", 1, x.account(0));
        });
        Checks.edge(20, "what is 8 at most", () -> {
            CaptionLoom x = new CaptionLoom();
            x.beat();
            Checks.dueArgument("account(9)", () -> x.account(9));
            Checks.dueArgument("account(MAX)", () -> x.account(Integer.MAX_VALUE));
            Checks.due("account(8)", 3, x.account(8));
        });
    }

    private static void dueRefusals(CaptionLoom x, int... due) {
        for (int reason = 1; reason <= 7; reason++) {
            Checks.due("refusals with the reason " + reason, due[reason - 1], x.account(reason));
        }
    }

    private static void accountActs() {
        Checks.edge(20, "1 to 7: each refusal with its reason", () -> {
            CaptionLoom x = new CaptionLoom();
            x.setStock(1, 0);
            x.pass(1, 0, 0);
            x.unpick(1);
            x.setDelay(4);
            Checks.added(x, "ab", 0, 0, 0, 2);
            Checks.added(x, "ab", 0, 0, 9, 2);
            Checks.added(x, "ab", 0, 2, 2, 2);
            x.weave(8, false);
            dueRefusals(x, 0, 1, 1, 0, 1, 1, 1);
            x.beat();
            dueRefusals(x, 1, 1, 1, 0, 1, 1, 1);
            Checks.due("acts", 3, x.account(0));
        });
        Checks.edge(20, "4: a ninth caption", () -> {
            CaptionLoom x = Checks.loaded("loom 40 6;");
            for (int i = 0; i < 8; i++) {
                Checks.added(x, "i", 0, 4 * i, 0, 1);
            }
            Checks.due("after 8", 0, x.account(4));
            Checks.added(x, "i", 0, 32, 0, 1);
            Checks.due("after 9", 1, x.account(4));
            Checks.due("acts", 8, x.account(0));
        });
        Checks.edge(20, "a call that throws is neither done nor refused", () -> {
            CaptionLoom x = new CaptionLoom();
            Checks.dueArgument("weave(0, false)", () -> x.weave(0, false));
            Checks.dueArgument("weave(31, false)", () -> x.weave(31, false));
            Checks.dueIndex("drop(0)", () -> x.drop(0));
            Checks.dueArgument("add", () -> x.add(0, 0, 0, 1));
            Checks.due("acts", 0, x.account(0));
            dueRefusals(x, 0, 0, 0, 0, 0, 0, 0);
        });
        Checks.edge(20, "0: each act counts once, also if it changed nothing", () -> {
            CaptionLoom x = new CaptionLoom();
            x.unpick(0);
            x.look();
            x.setStock(1, 500);
            Checks.due("acts", 3, x.account(0));
        });
        Checks.edge(20, "0: undo, load, save and restore are no acts", () -> {
            CaptionLoom x = new CaptionLoom();
            x.look();
            x.undo();
            x.undo();
            x.save(0);
            x.restore(0);
            Checks.say(x, "loom 8 6;");
            x.load();
            Checks.due("acts, with the one that was undone", 1, x.account(0));
        });
    }

    private static void accountMinutes() {
        Checks.edge(20, "8: minutes, converted to int, of each row", () -> {
            // 11 * 0.25 = 2.75
            CaptionLoom x = Checks.loaded("loom 11 6;");
            x.beat();
            Checks.due("of one row", 2, x.account(8));
            x.beat();
            Checks.due("of two rows", 4, x.account(8));
            x.weave(4, false);
            Checks.due("of six rows", 12, x.account(8));
        });
        Checks.edge(20, "8: with joins", () -> {
            // 12 * 0.25 + 1 * 1.75 = 4.75, with 2 joins 6.5, with 4 joins 10
            CaptionLoom x = new CaptionLoom();
            x.pass(1, 0, 0);
            x.beat();
            Checks.due("1 join", 4, x.account(8));
            x.pass(1, 1, 1);
            x.beat();
            Checks.due("2 joins", 10, x.account(8));
            x.pass(1, 1, 1);
            x.pass(1, 4, 4);
            x.beat();
            Checks.due("4 joins", 20, x.account(8));
        });
        Checks.edge(20, "8: also those that were unpicked", () -> {
            CaptionLoom x = new CaptionLoom();
            x.beat();
            x.unpick(1);
            Checks.due("one row", 3, x.account(8));
            x.beat();
            Checks.due("anew", 6, x.account(8));
        });
        Checks.edge(20, "8: acts that were undone count, too, and their rows", () -> {
            CaptionLoom x = new CaptionLoom();
            x.weave(3, false);
            x.undo();
            Checks.due("three rows", 9, x.account(8));
            Checks.due("acts", 1, x.account(0));
        });
        Checks.edge(20, "8: a row that is passed, and not finished, takes none", () -> {
            CaptionLoom x = new CaptionLoom();
            x.pass(1, 0, 11);
            Checks.due("open", 0, x.account(8));
            x.beat();
            Checks.due("finished", 3, x.account(8));
        });
        Checks.edge(20, "8: what is refused finishes no row", () -> {
            CaptionLoom x = new CaptionLoom();
            x.setStock(0, 11);
            x.beat();
            x.weave(9, false);
            Checks.due("minutes", 0, x.account(8));
        });
        Checks.edge(20, "8: the most minutes of a row", () -> {
            // 40 * 0.25 + 39 * 1.75 = 78.25
            CaptionLoom x = Checks.loaded("loom 40 6;");
            for (int warp = 0; warp < 40; warp += 2) {
                x.pass(1, warp, warp);
            }
            x.beat();
            Checks.due("minutes", 78, x.account(8));
        });
    }
}
