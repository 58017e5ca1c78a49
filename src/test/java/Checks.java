import java.nio.charset.StandardCharsets;
import java.util.Arrays;

/** What the tests share: due answers, due exceptions, texts. */
final class Checks {
    private static int done;
    private static int wrong;

    private Checks() {
    }

    static void due(String what, long want, long got) {
        done++;
        if (want != got) {
            wrong++;
            System.out.println(what + " answered " + got + ", due is " + want);
        }
    }

    static void due(String what, boolean want, boolean got) {
        due(what, want ? 1 : 0, got ? 1 : 0);
    }

    static void due(String what, double want, double got) {
        done++;
        if (want != got) {
            wrong++;
            System.out.println(what + " answered " + got + ", due is " + want);
        }
    }

    /** The very class of the exception counts, as the machine's own are subclasses of the due ones. */
    static void dueThrow(String what, Class<?> want, Runnable call) {
        done++;
        Object got = "nothing";
        try {
            call.run();
        } catch (RuntimeException e) {
            got = e.getClass();
        }
        if (got != want) {
            wrong++;
            System.out.println(what + " threw " + got + ", due is " + want);
        }
    }

    static void dueArgument(String what, Runnable call) {
        dueThrow(what, IllegalArgumentException.class, call);
    }

    static void dueIndex(String what, Runnable call) {
        dueThrow(what, IndexOutOfBoundsException.class, call);
    }

    static void dueState(String what, Runnable call) {
        dueThrow(what, IllegalStateException.class, call);
    }

    /** Collects a text of at most 400 bytes, behind what the buffer holds. */
    static void say(CaptionLoom loom, String text) {
        byte[] bytes = text.getBytes(StandardCharsets.ISO_8859_1);
        byte[] padded = Arrays.copyOf(bytes, (bytes.length + 19) / 20 * 20);
        int length = loom.truncate(0);
        for (int i = 0; i < padded.length; i += 20) {
            int[] p = new int[5];
            for (int j = 0; j < 20; j++) {
                p[j / 4] = p[j / 4] << 8 | padded[i + j] & 255;
            }
            length = loom.append(p[0], p[1], p[2], p[3], p[4]);
        }
        if (length != padded.length || loom.truncate(bytes.length) != bytes.length) {
            due("the length of the text", bytes.length, -1);
        }
    }

    static CaptionLoom loaded(String design) {
        CaptionLoom loom = new CaptionLoom();
        say(loom, design);
        due("load of " + design, true, loom.load() != CaptionLoom.NONE);
        return loom;
    }

    static int played(CaptionLoom loom, String script) {
        say(loom, script);
        return loom.play();
    }

    static int added(CaptionLoom loom, String word, int side, int x, int y, int colour) {
        say(loom, word);
        return loom.add(side, x, y, colour);
    }

    static String written(CaptionLoom loom, int length) {
        StringBuilder s = new StringBuilder();
        for (int i = 0; i < length; i++) {
            s.append((char) loom.output(i));
        }
        return s.toString();
    }

    static void dueText(String what, String want, CaptionLoom loom, int length) {
        due(what + ": bytes", want.length(), length);
        String got = written(loom, length);
        done++;
        if (!got.equals(want)) {
            wrong++;
            System.out.println(what + " wrote " + got + ", due is " + want);
        }
    }

    static void end() {
        System.out.println(done + " answers, " + wrong + " of them wrong");
        if (wrong != 0) {
            System.exit(1);
        }
    }
}
