import java.io.IOException;
import java.lang.reflect.Constructor;
import java.lang.reflect.Method;
import java.lang.reflect.Modifier;
import java.nio.file.Files;
import java.nio.file.Path;
import java.util.ArrayList;
import java.util.List;
import java.util.regex.Matcher;
import java.util.regex.Pattern;

/** The class shows the face that the document prints, and nothing else. Argument: the document. */
final class FaceTest {
    private FaceTest() {
    }

    public static void main(String[] args) throws IOException {
        sameFace(Files.readString(Path.of(args[0])));
        Check.finish("FaceTest");
    }

    private static void sameFace(String document) {
        int begin = document.indexOf("```java") + "```java".length();
        String block = document.substring(begin, document.indexOf("```", begin));
        List<String> due = new ArrayList<>();
        Matcher line = Pattern.compile("public ([^;{]*\\));|public ([^;{]*\\) throws [^;]*);").matcher(block);
        while (line.find()) {
            String face = line.group(1) != null ? line.group(1) : line.group(2);
            due.add(face.replaceAll("(int|boolean) \\w+([,)])", "$1$2"));
        }
        List<String> got = new ArrayList<>();
        for (Constructor<?> constructor : LyndonText.class.getDeclaredConstructors()) {
            Check.same("the constructor is public", Modifier.isPublic(constructor.getModifiers()), true);
            got.add("LyndonText(" + names(constructor.getParameterTypes(), ", ") + ")");
        }
        for (Method method : LyndonText.class.getDeclaredMethods()) {
            if (!Modifier.isPrivate(method.getModifiers())) {
                Check.same(method.getName() + " is public and no more", method.getModifiers(), Modifier.PUBLIC);
                got.add(described(method));
            }
        }
        Check.same("members of the face", due.size(), 45);
        due.sort(null);
        got.sort(null);
        Check.same("the face", got, due);
        Check.same("the class", LyndonText.class.getModifiers(), Modifier.PUBLIC | Modifier.FINAL);
    }

    private static String described(Method method) {
        String thrown = names(method.getExceptionTypes(), ", ");
        return method.getReturnType() + " " + method.getName() + "(" + names(method.getParameterTypes(), ", ") + ")"
                + (thrown.isEmpty() ? "" : " throws " + thrown);
    }

    private static String names(Class<?>[] types, String between) {
        List<String> names = new ArrayList<>();
        for (Class<?> type : types) {
            names.add(type.getSimpleName());
        }
        return String.join(between, names);
    }
}
