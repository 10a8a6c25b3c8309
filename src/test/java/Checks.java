import java.io.IOException;
import java.io.UncheckedIOException;
import java.nio.charset.StandardCharsets;
import java.nio.file.Files;
import java.nio.file.Path;

/** What the tests have in common: checks that are counted, and front ends that are set up by a text. */
final class Checks {
    interface Call {
        void make();
    }

    private static final Path DOCUMENT = Path.of("../shared/DOC.md");
    private static int made = 0;
    private static int failed = 0;
    private static String document = "";
    private static String sentence = "";

    private Checks() {
    }

    /** Names the sentence that the checks behind it are about. It must stand in the document, word for word. */
    static void sentence(String words) {
        made++;
        sentence = "[" + words + "] ";
        if (!document().contains(words)) {
            failed++;
            System.out.println(sentence + "does not stand in the document");
        }
    }

    private static String document() {
        if (document.isEmpty()) {
            try {
                document = Files.readString(DOCUMENT).replaceAll("[ \n]+", " ");
            } catch (IOException thrown) {
                throw new UncheckedIOException(thrown);
            }
        }
        return document;
    }

    private static void fail(String what) {
        failed++;
        System.out.println(sentence + what);
    }

    static void same(String what, double got, double want) {
        made++;
        if (got != want) {
            fail(what + ": got " + got + ", want " + want);
        }
    }

    static void holds(String what, boolean got) {
        same(what, got ? 1 : 0, 1);
    }

    static void fails(String what, boolean got) {
        same(what, got ? 1 : 0, 0);
    }

    static void throwsOne(String what, Class<? extends RuntimeException> type, Call call) {
        made++;
        String got = "nothing";
        try {
            call.make();
        } catch (RuntimeException thrown) {
            got = thrown.getClass().getName();
        }
        if (!got.equals(type.getName())) {
            fail(what + ": threw " + got + ", want " + type.getName());
        }
    }

    /** Twenty bytes from an index on, as feed takes them; zeros stand behind the last one. */
    static int[] words(byte[] bytes, int at) {
        int[] words = new int[5];
        for (int index = 0; index < 20; index++) {
            int sign = at + index < bytes.length ? bytes[at + index] & 255 : 0;
            words[index / 4] = words[index / 4] << 8 | sign;
        }
        return words;
    }

    static void feed(FusionFront front, byte[] bytes) {
        for (int at = 0; at < bytes.length; at += 20) {
            int[] words = words(bytes, at);
            front.feed(words[0], words[1], words[2], words[3], words[4]);
        }
        holds("the text fits", front.truncate(bytes.length));
    }

    static int parse(FusionFront front, String text) {
        feed(front, text.getBytes(StandardCharsets.ISO_8859_1));
        return front.parse();
    }

    static FusionFront made(String text) {
        FusionFront front = new FusionFront();
        int many = parse(front, text);
        if (many == FusionFront.NONE) {
            fail("no setup: " + text + " has code " + front.errorCode() + " at " + front.errorOffset());
        }
        return front;
    }

    /** A text that has an error. */
    static void error(String text, int code, int offset) {
        FusionFront front = new FusionFront();
        same(text + " parse", parse(front, text), FusionFront.NONE);
        same(text + " code", front.errorCode(), code);
        same(text + " offset", front.errorOffset(), offset);
    }

    /** A text that has none, and so many instructions. */
    static void fine(String text, int many) {
        FusionFront front = new FusionFront();
        same(text + " parse", parse(front, text), many);
        same(text + " code", front.errorCode(), 0);
        same(text + " offset", front.errorOffset(), FusionFront.NONE);
    }

    /** The bubbles for causes 1 to 8. */
    static void bubbles(String what, FusionFront front, int... due) {
        for (int cause = 1; cause <= 8; cause++) {
            same(what + " cause " + cause, front.bubbles(cause), due[cause - 1]);
        }
    }

    static void queue(String what, FusionFront front, int... due) {
        same(what + " queue", front.count(19), due.length);
        for (int index = 0; index < due.length && index < front.count(19); index++) {
            same(what + " queue " + index, front.queueAt(index), due[index]);
        }
    }

    static String output(FusionFront front) {
        StringBuilder text = new StringBuilder();
        for (int index = 0; front.outputByte(index) != FusionFront.NONE; index++) {
            text.append((char) front.outputByte(index));
        }
        return text.toString();
    }

    static void end() {
        System.out.println(made + " checks, " + failed + " failed");
        if (failed != 0 || made == 0) {
            System.exit(1);
        }
    }
}
