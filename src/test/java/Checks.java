import java.nio.charset.StandardCharsets;
import java.util.Arrays;
import java.util.Set;
import java.util.TreeSet;

/** What the tests share: due answers, due exceptions, texts, tests of edges. */
final class Checks {
    private static final Set<Integer> PROMISES = new TreeSet<>();
    private static int done;
    private static int wrong;
    private static int edges;
    private static String edge = "";

    private Checks() {
    }

    private static void report(String what) {
        wrong++;
        System.out.println(edge + what);
    }

    /** A test of its own, for a sentence of a promise that names a boundary case. */
    static void edge(int promise, String sentence, Runnable test) {
        PROMISES.add(promise);
        edges++;
        edge = "promise " + promise + ", " + sentence + ": ";
        int before = done;
        try {
            test.run();
        } catch (RuntimeException e) {
            report("threw " + e);
        }
        if (done == before) {
            report("asked nothing");
        }
        edge = "";
    }

    /** Ends a class of edge tests; each of its promises has to have one. */
    static void endEdges(int firstPromise, int lastPromise) {
        for (int promise = firstPromise; promise <= lastPromise; promise++) {
            if (!PROMISES.contains(promise)) {
                report("no test of an edge of promise " + promise);
            }
        }
        end();
    }

    static void due(String what, long want, long got) {
        done++;
        if (want != got) {
            report(what + " answered " + got + ", due is " + want);
        }
    }

    static void due(String what, boolean want, boolean got) {
        due(what, want ? 1 : 0, got ? 1 : 0);
    }

    static void due(String what, double want, double got) {
        done++;
        if (want != got) {
            report(what + " answered " + got + ", due is " + want);
        }
    }

    static void due(String what, String want, String got) {
        done++;
        if (!want.equals(got)) {
            report(what + " answered " + got + ", due is " + want);
        }
    }

    /** The very class of the exception counts, as the machine's own are subclasses of the due ones. */
    static void dueThrow(String what, Class<?> want, Runnable call) {
        done++;
        Object got = "nothing";
        try {
            call.run();
        } catch (RuntimeException e) {
            got = e.getClass();
        }
        if (got != want) {
            report(what + " threw " + got + ", due is " + want);
        }
    }

    static void dueArgument(String what, Runnable call) {
        dueThrow(what, IllegalArgumentException.class, call);
    }

    static void dueIndex(String what, Runnable call) {
        dueThrow(what, IndexOutOfBoundsException.class, call);
    }

    static void dueState(String what, Runnable call) {
        dueThrow(what, IllegalStateException.class, call);
    }

    /** Collects a text of at most 400 bytes, behind what the buffer holds. */
    static void say(CaptionLoom loom, String text) {
        byte[] bytes = text.getBytes(StandardCharsets.ISO_8859_1);
        byte[] padded = Arrays.copyOf(bytes, (bytes.length + 19) / 20 * 20);
        int length = loom.truncate(0);
        for (int i = 0; i < padded.length; i += 20) {
            int[] p = new int[5];
            for (int j = 0; j < 20; j++) {
                p[j / 4] = p[j / 4] << 8 | padded[i + j] & 255;
            }
            length = loom.append(p[0], p[1], p[2], p[3], p[4]);
        }
        if (length != padded.length || loom.truncate(bytes.length) != bytes.length) {
            due("the length of the text", bytes.length, -1);
        }
    }

    static CaptionLoom loaded(String design) {
        CaptionLoom loom = new CaptionLoom();
        say(loom, design);
        due("load of " + design, true, loom.load() != CaptionLoom.NONE);
        return loom;
    }

    static int played(CaptionLoom loom, String script) {
        say(loom, script);
        return loom.play();
    }

    /** The text is told with a ^ at the position of its error. */
    static void designError(int code, String marked) {
        CaptionLoom loom = new CaptionLoom();
        String text = marked.replace("^", "");
        say(loom, text);
        due("load of " + text, CaptionLoom.NONE, loom.load());
        due("errorCode of " + text, code, loom.errorCode());
        due("errorPosition of " + text, marked.indexOf('^'), loom.errorPosition());
    }

    /** The text is told with a ^ at the position of its error. */
    static void scriptError(int code, String marked) {
        CaptionLoom loom = new CaptionLoom();
        String text = marked.replace("^", "");
        say(loom, text);
        due("play of " + text, CaptionLoom.NONE, loom.play());
        due("errorCode of " + text, code, loom.errorCode());
        due("errorPosition of " + text, marked.indexOf('^'), loom.errorPosition());
    }

    /** The script, on a new loom, has no error, and so many of its commands are done. */
    static CaptionLoom scriptDoes(int commands, String script) {
        CaptionLoom loom = new CaptionLoom();
        due("play of " + script, commands, played(loom, script));
        due("errorCode of " + script, 0, loom.errorCode());
        due("errorPosition of " + script, CaptionLoom.NONE, loom.errorPosition());
        return loom;
    }

    static void designIs(int captions, String design) {
        CaptionLoom loom = new CaptionLoom();
        say(loom, design);
        due("load of " + design, captions, loom.load());
        due("errorCode of " + design, 0, loom.errorCode());
        due("errorPosition of " + design, CaptionLoom.NONE, loom.errorPosition());
    }

    /** Whether the text buffer is empty: it has a length of 0, and no greater one. */
    static void dueNoText(CaptionLoom loom) {
        dueArgument("truncate(1) of no text", () -> loom.truncate(1));
        due("truncate(0)", 0, loom.truncate(0));
    }

    /** Passes a colour at one column of the open row. */
    static void passColumn(CaptionLoom loom, int colour, int column) {
        int warp = loom.count(0) - 1 - column;
        due("pass at column " + column, true, loom.pass(colour, warp, warp) >= 0);
    }

    static int added(CaptionLoom loom, String word, int side, int x, int y, int colour) {
        say(loom, word);
        return loom.add(side, x, y, colour);
    }

    static String written(CaptionLoom loom, int length) {
        StringBuilder s = new StringBuilder();
        for (int i = 0; i < length; i++) {
            s.append((char) loom.output(i));
        }
        return s.toString();
    }

    static void dueText(String what, String want, CaptionLoom loom, int length) {
        due(what + ": bytes", want.length(), length);
        due(what + ": text", want, written(loom, length));
    }

    /** All that acts can change; some 200 calls for a loom of 14 by 6, of the 512 that an object is used for. */
    static String told(CaptionLoom x) {
        StringBuilder s = new StringBuilder();
        for (int what = 0; what < 8; what++) {
            s.append(x.count(what)).append(' ');
        }
        for (int colour = 0; colour < 7; colour++) {
            s.append(x.colour(colour, 0)).append(' ');
        }
        int captions = x.count(4);
        for (int caption = 0; caption < captions; caption++) {
            for (int what = 0; what <= 9; what++) {
                s.append(x.caption(caption, what)).append(' ');
            }
            int letters = x.caption(caption, 0);
            for (int letter = 0; letter < letters; letter++) {
                s.append(x.letter(caption, letter, 0)).append(' ');
            }
        }
        int width = x.count(0);
        int height = x.count(1);
        for (int row = 0; row < height; row++) {
            for (int column = 0; column < width; column++) {
                s.append(x.cell(column, row)).append(x.design(column, row)).append(' ');
            }
        }
        return s.append(x.mistakes(1)).toString();
    }

    static void end() {
        if (edges > 0) {
            System.out.println(edges + " tests of edges");
        }
        System.out.println(done + " answers, " + wrong + " of them wrong");
        if (wrong != 0) {
            System.exit(1);
        }
    }
}
