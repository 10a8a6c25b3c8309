import java.nio.charset.StandardCharsets;

/** What the tests have in common: checks that are counted, and front ends that are set up by a text. */
final class Checks {
    interface Call {
        void make();
    }

    private static int made = 0;
    private static int failed = 0;

    private Checks() {
    }

    static void same(String what, double got, double want) {
        made++;
        if (got != want) {
            failed++;
            System.out.println(what + ": got " + got + ", want " + want);
        }
    }

    static void holds(String what, boolean got) {
        same(what, got ? 1 : 0, 1);
    }

    static void fails(String what, boolean got) {
        same(what, got ? 1 : 0, 0);
    }

    static void throwsOne(String what, Class<? extends RuntimeException> type, Call call) {
        made++;
        String got = "nothing";
        try {
            call.make();
        } catch (RuntimeException thrown) {
            got = thrown.getClass().getName();
        }
        if (!got.equals(type.getName())) {
            failed++;
            System.out.println(what + ": threw " + got + ", want " + type.getName());
        }
    }

    /** Twenty bytes from an index on, as feed takes them; zeros stand behind the last one. */
    static int[] words(byte[] bytes, int at) {
        int[] words = new int[5];
        for (int index = 0; index < 20; index++) {
            int sign = at + index < bytes.length ? bytes[at + index] & 255 : 0;
            words[index / 4] = words[index / 4] << 8 | sign;
        }
        return words;
    }

    static void feed(FusionFront front, byte[] bytes) {
        for (int at = 0; at < bytes.length; at += 20) {
            int[] words = words(bytes, at);
            front.feed(words[0], words[1], words[2], words[3], words[4]);
        }
        holds("the text fits", front.truncate(bytes.length));
    }

    static int parse(FusionFront front, String text) {
        feed(front, text.getBytes(StandardCharsets.ISO_8859_1));
        return front.parse();
    }

    static FusionFront made(String text) {
        FusionFront front = new FusionFront();
        int many = parse(front, text);
        if (many == FusionFront.NONE) {
            failed++;
            System.out.println("no setup: " + text + " has code " + front.errorCode() + " at " + front.errorOffset());
        }
        return front;
    }

    static String output(FusionFront front) {
        StringBuilder text = new StringBuilder();
        for (int index = 0; front.outputByte(index) != FusionFront.NONE; index++) {
            text.append((char) front.outputByte(index));
        }
        return text.toString();
    }

    static void end() {
        System.out.println(made + " checks, " + failed + " failed");
        if (failed != 0 || made == 0) {
            System.exit(1);
        }
    }
}
