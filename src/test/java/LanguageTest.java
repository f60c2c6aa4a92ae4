import java.io.IOException;
import java.lang.reflect.Field;
import java.lang.reflect.Method;
import java.lang.reflect.Modifier;
import java.nio.file.Files;
import java.nio.file.Path;
import java.util.ArrayList;
import java.util.HashSet;
import java.util.List;
import java.util.Set;

/** The program keeps to the rules of LANGUAGE.md that can be read off it. Arguments: the document and the source. */
final class LanguageTest {
    /** Of the library's methods, which rules 4 and 6 list, those that the program calls. */
    private static final Set<String> LIBRARY = Set.of("java/lang/Object.<init> ()V", "java/lang/Integer.compare (II)I",
            "java/lang/Math.max (II)I", "java/lang/Math.min (II)I",
            "java/lang/IllegalArgumentException.<init> (Ljava/lang/String;)V",
            "java/lang/IllegalStateException.<init> (Ljava/lang/String;)V",
            "java/lang/IndexOutOfBoundsException.<init> (Ljava/lang/String;)V");

    private LanguageTest() {
    }

    public static void main(String[] args) throws IOException {
        List<Class<?>> classes = new ArrayList<>(List.of(LyndonText.class.getDeclaredClasses()));
        for (Class<?> one : classes) {
            Check.same("rule 1: " + one + " is private and static",
                    one.getModifiers() & (Modifier.PRIVATE | Modifier.STATIC), Modifier.PRIVATE | Modifier.STATIC);
        }
        classes.add(LyndonText.class);
        Check.same("rule 11: at most twelve classes, not " + classes.size(), classes.size() <= 12, true);
        noNameTwice(classes);
        for (Class<?> one : classes) {
            plainFields(one);
            listedLibrary(one);
        }
        plainSource(Files.readString(Path.of(args[1])));
        Check.finish("LanguageTest");
    }

    /** No method that is not of the face bears a name of the face, here or in a class inside. */
    private static void noNameTwice(List<Class<?>> classes) {
        Set<String> face = new HashSet<>();
        for (Method method : LyndonText.class.getMethods()) {
            face.add(method.getName());
        }
        for (Class<?> one : classes) {
            for (Method method : one.getDeclaredMethods()) {
                boolean isFace = one == LyndonText.class && Modifier.isPublic(method.getModifiers());
                Check.same("rule 1: " + one.getName() + "." + method.getName() + " bears a name of the face",
                        !isFace && face.contains(method.getName()), false);
                Check.same("rule 11: " + method.getName() + " has at most seven parameters",
                        method.getParameterCount() <= 7, true);
            }
        }
    }

    private static void plainFields(Class<?> one) {
        int count = 0;
        for (Field field : one.getDeclaredFields()) {
            int modifiers = field.getModifiers();
            boolean isOwn = List.of(LyndonText.class.getDeclaredClasses()).contains(field.getType());
            Check.same("rule 1: " + field + " is private", Modifier.isPrivate(modifiers), true);
            Check.same("rule 3: " + field + " is an int, a row of them or of an own class",
                    field.getType() == int.class || field.getType() == int[].class || isOwn, true);
            if (Modifier.isStatic(modifiers)) {
                Check.same("rule 5: " + field + " is a constant",
                        Modifier.isFinal(modifiers) && field.getType() == int.class, true);
            } else {
                count++;
            }
        }
        Check.same("rule 11: " + one + " has at most twenty fields, not " + count, count <= 20, true);
    }

    private static void listedLibrary(Class<?> one) throws IOException {
        ClassFile file = new ClassFile(one);
        for (String called : file.called()) {
            Check.same("rule 4: " + one.getName() + " calls " + called,
                    called.startsWith("LyndonText") || LIBRARY.contains(called), true);
        }
        for (String named : file.classes()) {
            Check.same("rule 4: " + one.getName() + " names " + named, named.startsWith("LyndonText")
                    || LIBRARY.stream().anyMatch(called -> called.startsWith(named + ".")), true);
        }
        Check.same("rules 2 and 10: " + one.getName() + " binds calls while it runs", file.bindsCalls(), false);
    }

    private static void plainSource(String source) {
        for (String word : new String[] {"import ", "package ", "try ", "catch ", "finally ", "synchronized", "assert ",
            "->", "::", "static {", "hashCode", "toString"}) {
            Check.same("rules 2, 5 and 6: the source has '" + word + "'", source.contains(word), false);
        }
        int length = 0;
        for (String line : source.split("\n")) {
            Check.same("a line of at most 120 signs: " + line, line.length() <= 120, true);
            // A method's own lines stand between its first line and a brace as deep as it.
            length = line.matches(" {4,8}\\}") ? 0 : line.isBlank() ? 0 : length + 1;
            Check.same("rule 11: a method of at most 60 lines, at: " + line, length <= 60, true);
        }
    }
}
