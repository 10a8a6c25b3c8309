import java.lang.reflect.InvocationTargetException;
import java.lang.reflect.Method;
import java.lang.reflect.Modifier;
import java.nio.charset.StandardCharsets;
import java.util.ArrayList;
import java.util.Arrays;
import java.util.Comparator;
import java.util.List;

/** All promises: runs of calls, drawn from fixed seeds, that FusionFront must answer as the Model does. */
public final class ModelTest {
    private static final int TEXTS = 4000;
    private static final int RUNS = 900;
    private static final int CALLS = 120;
    private static final int MOST_REPORTS = 10;
    private static final String[] KINDS =
            {"nop", "add", "mov", "load", "store", "cmp", "test", "div", "jump", "branch"};
    private static final String[] STRAY =
            {"lanes", "window", "fuse", "repeat", "long", "jump", "add", "back", "ahead", "times", "(", ")", ";",
                "0", "1", "9", "16", "100", "x", "A", "\t", "\n", " ", "\u0000", "\u00ff", "div", "loop"};

    private static long seed;
    private static int reports;

    private ModelTest() {
    }

    public static void main(String[] args) throws ReflectiveOperationException {
        List<Method> face = face();
        for (int text = 0; text < TEXTS; text++) {
            seed = 7919L * text + 1;
            compareTexts(text);
        }
        for (int run = 0; run < RUNS && reports < MOST_REPORTS; run++) {
            seed = 104729L * run + 17;
            compareRun(run, face);
        }
        Checks.end();
    }

    /** The calls of the face in an order that does not hang on the machine. */
    private static List<Method> face() {
        List<Method> face = new ArrayList<>();
        for (Method method : FusionFront.class.getDeclaredMethods()) {
            boolean isPublic = Modifier.isPublic(method.getModifiers());
            if (isPublic && !method.getName().equals("parse")) {
                face.add(method);
            }
        }
        face.sort(Comparator.comparing(Method::getName));
        return face;
    }

    private static int draw(int bound) {
        seed = seed * 6364136223846793005L + 1442695040888963407L;
        return (int) Math.floorMod(seed >>> 33, (long) bound);
    }

    private static boolean oneIn(int many) {
        return draw(many) == 0;
    }

    private static String kind() {
        return KINDS[draw(KINDS.length)];
    }

    private static String instruction(int before) {
        String text = oneIn(7) ? "long " : "";
        String kind = oneIn(3) ? KINDS[8 + draw(2)] : kind();
        if (kind.equals("jump") && !oneIn(4)) {
            kind = "branch";
        }
        text += kind;
        if (kind.equals("jump") || kind.equals("branch")) {
            text += before > 0 && !oneIn(3) ? " back " + (1 + draw(Math.min(before, 9))) : " ahead " + draw(4);
        }
        if (kind.equals("branch")) {
            text += " times " + (oneIn(4) ? 1 + draw(99) : 1 + draw(6));
        }
        return text + ";";
    }

    /** Statements that may stand in brackets; what is drawn may have too many instructions now and then. */
    private static String statements(int depth, int before) {
        StringBuilder text = new StringBuilder();
        int many = 1 + draw(depth == 0 ? 9 : 4);
        for (int index = 0; index < many; index++) {
            if (depth < 2 && oneIn(6)) {
                text.append("repeat ").append(1 + draw(4)).append("(");
                text.append(statements(depth + 1, before + index)).append(");");
            } else {
                text.append(instruction(before + index));
            }
        }
        return text.toString();
    }

    private static String text() {
        StringBuilder text = new StringBuilder();
        if (oneIn(2)) {
            text.append("lanes ").append(1 + draw(6)).append(";");
        }
        if (oneIn(2)) {
            text.append("window ").append(8 << draw(3)).append(";");
        }
        if (oneIn(2)) {
            text.append("queue ").append(2 + draw(oneIn(2) ? 4 : 19)).append(";");
        }
        if (oneIn(2)) {
            text.append("ops ").append(4 + draw(oneIn(2) ? 8 : 37)).append(";");
        }
        if (oneIn(2)) {
            text.append("rate ").append(1 + draw(8)).append(";");
        }
        if (!oneIn(3)) {
            text.append("loop ").append(draw(31)).append(";");
        }
        int rules = draw(6);
        for (int rule = 0; rule < rules; rule++) {
            text.append("fuse ").append(KINDS[draw(8)]).append(' ').append(kind()).append(";");
        }
        return text.append(statements(0, 0)).toString();
    }

    private static String spoiled(String text) {
        StringBuilder spoiled = new StringBuilder(text);
        int many = draw(3);
        for (int change = 0; change < many; change++) {
            int at = draw(spoiled.length() + 1);
            if (oneIn(2)) {
                spoiled.insert(at, STRAY[draw(STRAY.length)]);
            } else {
                spoiled.delete(at, Math.min(at + 1 + draw(4), spoiled.length()));
            }
        }
        return spoiled.substring(0, Math.min(spoiled.length(), 580));
    }

    private static void report(String what, Object got, Object want) {
        if (!got.equals(want)) {
            reports++;
            Checks.same(what + ": got " + got + ", want " + want, 1, 0);
        } else {
            Checks.same(what, 0, 0);
        }
    }

    /** Lets both parse a text, and tells the number of instructions. */
    private static int parseBoth(String what, String text, FusionFront front, Model model) {
        byte[] bytes = text.getBytes(StandardCharsets.ISO_8859_1);
        front.truncate(0);
        model.truncate(0);
        for (int at = 0; at < bytes.length; at += 20) {
            int[] words = Checks.words(bytes, at);
            int length = front.feed(words[0], words[1], words[2], words[3], words[4]);
            report(what + " feed", length, model.feed(words[0], words[1], words[2], words[3], words[4]));
        }
        report(what + " truncate", front.truncate(bytes.length), model.truncate(bytes.length));
        int many = front.parse();
        report(what + " parse", many, model.parse());
        report(what + " code", front.errorCode(), model.errorCode());
        report(what + " offset", front.errorOffset(), model.errorOffset());
        return many;
    }

    private static void compareTexts(int number) {
        String text = spoiled(text());
        FusionFront front = new FusionFront();
        Model model = new Model();
        int many = parseBoth("text " + number + " " + text, text, front, model);
        for (int line = 0; line < many; line++) {
            for (int what = 0; what < 8; what++) {
                report(text + " " + line + " " + what, front.instruction(line, what), model.instruction(line, what));
            }
        }
    }

    private static void compareRun(int run, List<Method> face) throws ReflectiveOperationException {
        FusionFront front = new FusionFront();
        Model model = new Model();
        String text = text();
        int many = parseBoth("run " + run + " " + text, text, front, model);
        StringBuilder calls = new StringBuilder(text);
        for (int call = 0; call < CALLS && reports < MOST_REPORTS; call++) {
            if (oneIn(50)) {
                String next = oneIn(2) ? text() : spoiled(text());
                calls.append("\n  ").append(next);
                many = Math.max(parseBoth("run " + run + " " + calls, next, front, model), 0);
                many = Math.max(many, front.count(0));
            }
            Method method = call % 3 == 0 ? changing(face) : face.get(draw(face.size()));
            Object[] values = values(method, Math.max(many, 1));
            calls.append("\n  ").append(method.getName()).append(Arrays.toString(values));
            Method due = Model.class.getMethod(method.getName(), method.getParameterTypes());
            Object got = answer(method, front, values);
            Object want = answer(due, model, values);
            calls.append(" ").append(got);
            report(got.equals(want) ? "run" : "run " + run + " " + calls, got, want);
        }
        for (int what = -1; what <= 25; what++) {
            report("run " + run + " count " + what, front.count(what), model.count(what));
        }
    }

    private static Method changing(List<Method> face) {
        String name = new String[] {"run", "run", "run", "run", "runTo", "set", "stall", "redirect", "saveState", "restoreState",
            "undo", "addRule"}[draw(12)];
        for (Method method : face) {
            if (method.getName().equals(name)) {
                return method;
            }
        }
        throw new IllegalStateException(name);
    }

    private static Object answer(Method method, Object object, Object[] values) throws ReflectiveOperationException {
        try {
            return method.invoke(object, values);
        } catch (InvocationTargetException thrown) {
            return thrown.getCause().getClass().getName();
        }
    }

    private static Object[] values(Method method, int many) {
        Object[] values = new Object[method.getParameterCount()];
        for (int index = 0; index < values.length; index++) {
            if (method.getParameterTypes()[index] == boolean.class) {
                values[index] = oneIn(2);
            } else {
                values[index] = oneIn(30) ? odd() : likely(method.getName(), index, many);
            }
        }
        return values;
    }

    private static int odd() {
        int[] odd = {-1, Integer.MIN_VALUE, Integer.MAX_VALUE, 0, 7, 8, 10, 60, 61, 99, 100, 500, 501, 999, 1000,
            9999, 10000, -500};
        return odd[draw(odd.length)];
    }

    private static int likely(String name, int index, int many) {
        switch (name) {
            case "run":
                return oneIn(9) ? 1 + draw(60) : 1 + draw(4);
            case "runTo":
                return draw(oneIn(5) ? 400 : 40);
            case "stall":
                return draw(9);
            case "set":
                return index == 0 ? new int[] {2, 6, 7, 7, 3}[draw(5)] : draw(oneIn(2) ? 32 : 9);
            case "count":
                return draw(26);
            case "instruction":
                return index == 0 ? draw(many + 1) : draw(9);
            case "at":
                return draw(3 * many + 3);
            case "crosses":
            case "fuses":
            case "isLoopable":
            case "times":
            case "redirect":
            case "cyclesUntil":
            case "printInstruction":
                return draw(many + (oneIn(9) ? 1 : 0));
            case "plain":
                return draw(oneIn(9) ? 10000 : 200);
            case "decoded":
                return draw(oneIn(3) ? 110 : 20);
            case "cyclesTo":
                return 1 + draw(oneIn(3) ? 999 : 60);
            case "ruleGain":
                return index == 2 ? 1 + draw(60) : draw(index == 0 ? 8 : 10);
            case "bubblesIn":
                return index == 1 ? draw(10) : 1 + draw(60);
            case "bestLanes":
            case "bestRate":
            case "bestLoop":
            case "roomNeeded":
            case "mainCauseIn":
                return 1 + draw(oneIn(20) ? 500 : 60);
            default:
                return draw(11);
        }
    }
}
