import java.io.IOException;
import java.lang.reflect.Constructor;
import java.lang.reflect.Field;
import java.lang.reflect.Method;
import java.lang.reflect.Modifier;
import java.nio.file.Files;
import java.nio.file.Path;
import java.util.ArrayList;
import java.util.HashSet;
import java.util.List;
import java.util.Set;
import java.util.regex.Matcher;
import java.util.regex.Pattern;

/**
 * The class shows the face that the document prints, and nothing else, and its source keeps to the rules of
 * LANGUAGE.md that can be read off it. Arguments: the document and the source.
 */
final class FaceTest {
    private FaceTest() {
    }

    public static void main(String[] args) throws IOException {
        sameFace(Files.readString(Path.of(args[0])));
        noNameTwice();
        onlyFinalStatics();
        plainSource(Files.readString(Path.of(args[1])));
        Check.finish("FaceTest");
    }

    private static void sameFace(String document) {
        int begin = document.indexOf("```java") + "```java".length();
        String block = document.substring(begin, document.indexOf("```", begin));
        List<String> due = new ArrayList<>();
        Matcher line = Pattern.compile("public ([^;{]*\\));|public ([^;{]*\\) throws [^;]*);").matcher(block);
        while (line.find()) {
            String face = line.group(1) != null ? line.group(1) : line.group(2);
            due.add(face.replaceAll("(int|boolean) \\w+([,)])", "$1$2"));
        }
        List<String> got = new ArrayList<>();
        for (Constructor<?> constructor : LyndonText.class.getDeclaredConstructors()) {
            Check.same("the constructor is public", Modifier.isPublic(constructor.getModifiers()), true);
            got.add("LyndonText(" + names(constructor.getParameterTypes(), ", ") + ")");
        }
        for (Method method : LyndonText.class.getDeclaredMethods()) {
            if (!Modifier.isPrivate(method.getModifiers())) {
                Check.same(method.getName() + " is public and no more", method.getModifiers(), Modifier.PUBLIC);
                got.add(described(method));
            }
        }
        Check.same("members of the face", due.size(), 45);
        due.sort(null);
        got.sort(null);
        Check.same("the face", got, due);
        Check.same("the class", LyndonText.class.getModifiers(), Modifier.PUBLIC | Modifier.FINAL);
    }

    private static String described(Method method) {
        String thrown = names(method.getExceptionTypes(), ", ");
        return method.getReturnType() + " " + method.getName() + "(" + names(method.getParameterTypes(), ", ") + ")"
                + (thrown.isEmpty() ? "" : " throws " + thrown);
    }

    private static String names(Class<?>[] types, String between) {
        List<String> names = new ArrayList<>();
        for (Class<?> type : types) {
            names.add(type.getSimpleName());
        }
        return String.join(between, names);
    }

    /** No method that is not of the face bears a name of the face, here or in a class inside. */
    private static void noNameTwice() {
        Set<String> face = new HashSet<>();
        for (Method method : LyndonText.class.getMethods()) {
            face.add(method.getName());
        }
        List<Class<?>> classes = new ArrayList<>(List.of(LyndonText.class.getDeclaredClasses()));
        Check.same("at most twelve classes", classes.size() < 12, true);
        classes.add(LyndonText.class);
        for (Class<?> one : classes) {
            for (Method method : one.getDeclaredMethods()) {
                boolean isFace = one == LyndonText.class && Modifier.isPublic(method.getModifiers());
                Check.same(one.getName() + "." + method.getName() + " bears a name of the face",
                        !isFace && face.contains(method.getName()), false);
                Check.same(method.getName() + " has at most seven parameters", method.getParameterCount() <= 7, true);
            }
        }
    }

    private static void onlyFinalStatics() {
        List<Class<?>> classes = new ArrayList<>(List.of(LyndonText.class.getDeclaredClasses()));
        classes.add(LyndonText.class);
        for (Class<?> one : classes) {
            for (Field field : one.getDeclaredFields()) {
                int modifiers = field.getModifiers();
                Check.same(field + " is private", Modifier.isPrivate(modifiers), true);
                if (Modifier.isStatic(modifiers)) {
                    Check.same(field + " is a constant", Modifier.isFinal(modifiers) && field.getType() == int.class,
                            true);
                }
            }
        }
    }

    private static void plainSource(String source) {
        for (String word : new String[] {"import ", "package ", "try ", "catch ", "finally ", "synchronized", "assert ",
            "->", "::", "static {", "System.exit", "Exact(", "hashCode", "toString"}) {
            Check.same("the source has '" + word + "'", source.contains(word), false);
        }
        int length = 0;
        for (String line : source.split("\n")) {
            Check.same("a line of at most 120 signs: " + line, line.length() <= 120, true);
            // A method's own lines stand between its first line and a brace as deep as it.
            length = line.matches(" {4,8}\\}") ? 0 : line.isBlank() ? 0 : length + 1;
            Check.same("a method of at most 60 lines, at: " + line, length <= 60, true);
        }
    }
}
