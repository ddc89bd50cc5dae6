import java.io.IOException;
import java.lang.reflect.Constructor;
import java.lang.reflect.Field;
import java.lang.reflect.Method;
import java.lang.reflect.Modifier;
import java.nio.file.Files;
import java.nio.file.Path;
import java.util.Arrays;
import java.util.List;
import java.util.Set;
import java.util.TreeSet;
import java.util.regex.Matcher;
import java.util.regex.Pattern;
import java.util.stream.Collectors;

/** The public face, and those rules of LANGUAGE.md that can be seen from names and words. */
public final class FaceTest {
    private static final Check CHECK = new Check("FaceTest");

    private static final Set<String> METHODS = Set.of(
        "int addLink(int, int, int, int)", "int removeLink(int)", "int setLife(int, int, int)", "int cut(int, int)",
        "int readLinks()", "int clear(int)", "int type(char)", "int clearText()", "int undo()", "int keep()",
        "int restore()", "int link(int, int)", "int joined(int, int, int)", "int moment(int, int)",
        "int part(int, int, int)", "int needed(int, int)", "int together(int, int, int)", "int odd(int)",
        "int span(int, int, int)", "int count(int)");

    public static void main(String[] args) throws IOException {
        constants();
        publicMembers();
        otherMembers();
        classesInside();
        words(Path.of("src/main/java/LivedLinks.java"));
        CHECK.close();
    }

    private static void constants() {
        CHECK.due("UNKNOWN", LivedLinks.UNKNOWN, -1);
        CHECK.due("BAD_VALUE", LivedLinks.BAD_VALUE, -2);
        CHECK.due("FULL", LivedLinks.FULL, -3);
        CHECK.due("NOT_POSSIBLE", LivedLinks.NOT_POSSIBLE, -4);
        CHECK.due("NONE", LivedLinks.NONE, -5);
    }

    private static String told(Method method) {
        return method.getReturnType().getSimpleName() + " " + method.getName() + Arrays.stream(method.getParameterTypes())
            .map(Class::getSimpleName).collect(Collectors.joining(", ", "(", ")"));
    }

    private static void publicMembers() {
        CHECK.due("the class", LivedLinks.class.getModifiers(), Modifier.PUBLIC | Modifier.FINAL);
        Set<String> methods = new TreeSet<>();
        for (Method method : LivedLinks.class.getDeclaredMethods()) {
            if (!Modifier.isPrivate(method.getModifiers())) {
                CHECK.due(method + " is public", method.getModifiers(), Modifier.PUBLIC);
                methods.add(told(method));
            }
        }
        CHECK.holds("the methods " + methods, methods.equals(METHODS));
        Set<String> fields = new TreeSet<>();
        for (Field field : LivedLinks.class.getDeclaredFields()) {
            if (!Modifier.isPrivate(field.getModifiers())) {
                fields.add(Modifier.toString(field.getModifiers()) + " " + field.getType() + " " + field.getName());
            }
        }
        CHECK.holds("the constants " + fields, fields.equals(Set.of("public static final int UNKNOWN",
            "public static final int BAD_VALUE", "public static final int FULL", "public static final int NOT_POSSIBLE",
            "public static final int NONE")));
        Constructor<?>[] made = LivedLinks.class.getDeclaredConstructors();
        CHECK.holds("the constructor", made.length == 1 && made[0].getParameterCount() == 0
            && made[0].getModifiers() == Modifier.PUBLIC);
    }

    private static void otherMembers() {
        Set<String> names = METHODS.stream().map(told -> told.substring(4, told.indexOf('(')))
            .collect(Collectors.toSet());
        for (Class<?> type : allClasses()) {
            int fields = 0;
            for (Field field : type.getDeclaredFields()) {
                int modifiers = field.getModifiers();
                if (Modifier.isStatic(modifiers)) {
                    CHECK.holds("final: " + field, Modifier.isFinal(modifiers));
                } else {
                    fields++;
                    CHECK.holds("private: " + field, Modifier.isPrivate(modifiers));
                }
            }
            CHECK.holds(type + " has at most twenty fields", fields <= 20);
            for (Method method : type.getDeclaredMethods()) {
                CHECK.holds("a name of its own: " + method, type == LivedLinks.class
                    && Modifier.isPublic(method.getModifiers()) || !names.contains(method.getName()));
                CHECK.holds("at most seven parameters: " + method, method.getParameterCount() <= 7);
            }
        }
    }

    private static List<Class<?>> allClasses() {
        List<Class<?>> all = new java.util.ArrayList<>(List.of(LivedLinks.class.getDeclaredClasses()));
        all.add(LivedLinks.class);
        return all;
    }

    private static void classesInside() {
        CHECK.holds("at most twelve classes", allClasses().size() <= 12);
        for (Class<?> type : LivedLinks.class.getDeclaredClasses()) {
            int modifiers = type.getModifiers();
            CHECK.holds(type + " is static", Modifier.isStatic(modifiers));
            CHECK.holds(type + " is not public", !Modifier.isPublic(modifiers) && !Modifier.isProtected(modifiers));
            CHECK.due(type + " has no classes inside", type.getDeclaredClasses().length, 0);
        }
    }

    /** Words and signs that the language does not have, and the library's names that it has. */
    private static void words(Path file) throws IOException {
        String source = Files.readString(file).replaceAll("(?s)/\\*.*?\\*/", " ").replaceAll("//[^\n]*", " ");
        Matcher no = Pattern.compile("\\b(package|import|throws?|try|catch|finally|synchronized|assert|native|volatile"
            + "|transient|var|yield|protected|null\\s*\\.|equals|hashCode|toString)\\b|->|::|\\bto\\w*Exact\\b").matcher(source);
        boolean found = no.find();
        CHECK.holds("a word that the language does not have: " + (found ? no.group() : ""), !found);
        Matcher library = Pattern.compile("\\b(System|Arrays|Integer|Long|Math|String|StringBuilder|ArrayList|List"
            + "|Character|Object|Class|Thread|Runtime)\\b(\\s*\\.\\s*\\w+)?").matcher(source);
        Set<String> used = new TreeSet<>();
        while (library.find()) {
            used.add(library.group().replaceAll("\\s", ""));
        }
        CHECK.holds("the library that is used: " + used, Set.of("Math.max", "Math.min").containsAll(used));
        CHECK.holds("signs 1 to 127 alone", source.chars().allMatch(sign -> sign >= 1 && sign <= 127));
    }
}
