import java.io.IOException;
import java.lang.reflect.Constructor;
import java.lang.reflect.Field;
import java.lang.reflect.Method;
import java.lang.reflect.Modifier;
import java.nio.file.Files;
import java.nio.file.Path;
import java.util.ArrayList;
import java.util.HashSet;
import java.util.List;
import java.util.Set;
import java.util.TreeSet;
import java.util.regex.Matcher;
import java.util.regex.Pattern;

/** The class has the public face that the document prints, no more and no less, and hides all else. */
public final class FaceTest {
    private FaceTest() {
    }

    public static void main(String[] args) throws IOException {
        Set<String> printed = printedFace();
        Set<String> built = builtFace();
        Checks.same("members that are printed", printed.size(), 50);
        for (String member : printed) {
            Checks.holds("has " + member, built.contains(member));
        }
        for (String member : built) {
            Checks.holds("is printed: " + member, printed.contains(member));
        }
        hidden();
        inside();
        Checks.end();
    }

    /** The members of the section "The public face", without the names of parameters and values. */
    private static Set<String> printedFace() throws IOException {
        String document = Files.readString(Path.of("../shared/DOC.md"));
        int start = document.indexOf("public final class FusionFront {");
        String face = document.substring(start, document.indexOf("\n}", start));
        Set<String> members = new TreeSet<>();
        for (String line : face.split("\n")) {
            if (line.startsWith("    public ")) {
                members.add(line.strip().replaceAll("(int|boolean) \\w+([,)])", "$1$2").replaceAll(" = .*|;$", ""));
            }
        }
        return members;
    }

    private static Set<String> builtFace() {
        Set<String> members = new TreeSet<>();
        for (Field field : FusionFront.class.getDeclaredFields()) {
            if (!Modifier.isPrivate(field.getModifiers())) {
                members.add(Modifier.toString(field.getModifiers()) + " " + field.getType() + " " + field.getName());
            }
        }
        for (Constructor<?> one : FusionFront.class.getDeclaredConstructors()) {
            if (!Modifier.isPrivate(one.getModifiers())) {
                members.add(Modifier.toString(one.getModifiers()) + " FusionFront"
                        + listed(one.getParameterTypes(), one.getExceptionTypes()));
            }
        }
        for (Method one : FusionFront.class.getDeclaredMethods()) {
            if (!Modifier.isPrivate(one.getModifiers()) && !one.isSynthetic()) {
                members.add(Modifier.toString(one.getModifiers()) + " " + one.getReturnType() + " " + one.getName()
                        + listed(one.getParameterTypes(), one.getExceptionTypes()));
            }
        }
        return members;
    }

    private static String listed(Class<?>[] parameters, Class<?>[] exceptions) {
        return "(" + names(parameters) + ")" + (exceptions.length > 0 ? " throws " + names(exceptions) : "");
    }

    private static String names(Class<?>[] types) {
        List<String> names = new ArrayList<>();
        for (Class<?> type : types) {
            names.add(type.getSimpleName());
        }
        return String.join(", ", names);
    }

    /** LANGUAGE.md, rule 1. */
    private static void hidden() {
        Checks.same("a public final class", FusionFront.class.getModifiers(), Modifier.PUBLIC | Modifier.FINAL);
        Set<String> open = new HashSet<>();
        for (Method one : FusionFront.class.getDeclaredMethods()) {
            if (Modifier.isPublic(one.getModifiers())) {
                Checks.holds("one public " + one.getName(), open.add(one.getName()));
            }
        }
        for (Class<?> one : withInside()) {
            for (Method method : one.getDeclaredMethods()) {
                boolean isFace = one == FusionFront.class && Modifier.isPublic(method.getModifiers());
                Checks.holds("a name of its own: " + method, isFace || !open.contains(method.getName()));
            }
        }
    }

    /** LANGUAGE.md, rules 1, 5 and 11. */
    private static void inside() throws IOException {
        Checks.holds("some twelve classes", withInside().size() <= 12);
        for (Class<?> one : withInside()) {
            int own = 0;
            for (Field field : one.getDeclaredFields()) {
                if (Modifier.isStatic(field.getModifiers())) {
                    Checks.holds("final: " + field, Modifier.isFinal(field.getModifiers()));
                } else {
                    own++;
                }
            }
            Checks.holds("some twenty fields: " + one, own <= 20);
            boolean isInside = one != FusionFront.class;
            Checks.holds("static: " + one, !isInside || Modifier.isStatic(one.getModifiers()));
            Checks.fails("public: " + one, isInside && Modifier.isPublic(one.getModifiers()));
        }
        String source = Files.readString(Path.of("src/main/java/FusionFront.java"));
        Matcher imports = Pattern.compile("import (.*);").matcher(source);
        while (imports.find()) {
            Checks.holds(imports.group(), List.of("java.util.Arrays", "java.util.NoSuchElementException")
                    .contains(imports.group(1)));
        }
        Checks.holds("signs 1 to 127", source.chars().allMatch(sign -> sign >= 1 && sign <= 127));
    }

    private static List<Class<?>> withInside() {
        List<Class<?>> classes = new ArrayList<>(List.of(FusionFront.class.getDeclaredClasses()));
        classes.add(FusionFront.class);
        return classes;
    }
}
