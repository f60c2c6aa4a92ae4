import java.io.File;
import java.io.IOException;
import java.lang.reflect.Method;
import java.lang.reflect.Modifier;
import java.nio.charset.StandardCharsets;
import java.nio.file.Files;
import java.nio.file.Path;
import java.util.List;
import java.util.Set;
import java.util.TreeSet;
import java.util.regex.Matcher;
import java.util.regex.Pattern;

/**
 * What README.md says is what stands: its example, compiled and started by its commands, prints what it shows, and it
 * names the calls and the tests that there are. Arguments: the document, the source and README.md.
 */
final class ReadmeTest {
    private ReadmeTest() {
    }

    public static void main(String[] args) throws Exception {
        Path readme = Path.of(args[2]).toAbsolutePath();
        String page = Files.readString(readme);
        exampleRuns(page, Path.of(args[1]));
        namesEachCall(page, Files.readString(Path.of(args[0])));
        namesEachTest(page, readme.resolveSibling("src/test/java").toFile());
        Check.finish("ReadmeTest");
    }

    private static void exampleRuns(String page, Path source) throws IOException, InterruptedException {
        Path room = Files.createTempDirectory("readme");
        try {
            Path program = room.resolve("src/main/java/LyndonText.java");
            Files.createDirectories(program.getParent());
            Files.copy(source, program);
            Files.writeString(room.resolve("Example.java"), block(page, "java"));
            runs(room, block(page, "sh"), block(page, "text"));
        } finally {
            remove(room.toFile());
        }
    }

    private static void runs(Path room, String commands, String due) throws IOException, InterruptedException {
        Process process = new ProcessBuilder("sh", "-e", "-c", commands).directory(room.toFile())
                .redirectError(ProcessBuilder.Redirect.INHERIT).start();
        String printed = new String(process.getInputStream().readAllBytes(), StandardCharsets.UTF_8);
        Check.same("the exit code of the commands", process.waitFor(), 0);
        List<String> got = printed.lines().toList();
        List<String> shown = due.lines().toList();
        Check.same("lines that the example prints", got.size(), shown.size());
        for (int line = 0; line < Math.min(got.size(), shown.size()); line++) {
            Check.same("line " + (line + 1) + " of the example", got.get(line), shown.get(line));
        }
    }

    /** Each call of the face is listed, in the groups and in the order that the document tells. */
    private static void namesEachCall(String page, String document) {
        String inOneLine = page.replaceAll("\\s+", " ");
        Set<String> named = new TreeSet<>();
        Matcher group = Pattern.compile("Ahead of the calls (.*) the interface says: ---- (.*)\\.").matcher(document);
        while (group.find()) {
            String listed = "- " + group.group(2) + ": " + group.group(1) + " ";
            Check.same("README.md lists: " + listed, inOneLine.contains(listed), true);
            Pattern.compile("\\w+").matcher(group.group(1)).results().forEach(call -> named.add(call.group()));
        }
        Set<String> face = new TreeSet<>();
        for (Method method : LyndonText.class.getDeclaredMethods()) {
            if (Modifier.isPublic(method.getModifiers())) {
                face.add(method.getName());
            }
        }
        Check.same("the calls that are listed", named, face);
    }

    private static void namesEachTest(String page, File tests) {
        Set<String> named = new TreeSet<>();
        Pattern.compile("(?m)^- `(\\w+Test)`").matcher(page).results().forEach(found -> named.add(found.group(1)));
        Set<String> there = new TreeSet<>();
        for (String name : tests.list()) {
            if (name.endsWith("Test.java")) {
                there.add(name.substring(0, name.length() - ".java".length()));
            }
        }
        Check.same("the tests that README.md lists", named, there);
        Check.same("README.md names the command for the tests", page.contains("\n    .ci/run\n"), true);
    }

    /** The first block of a kind, from the line behind its fence on. */
    private static String block(String page, String kind) {
        Matcher block = Pattern.compile("(?ms)^```" + kind + "\\n(.*?)^```$").matcher(page);
        Check.same("README.md has a block of " + kind, block.find(), true);
        return block.group(1);
    }

    private static void remove(File file) {
        File[] inside = file.listFiles();
        for (File one : inside == null ? new File[0] : inside) {
            remove(one);
        }
        file.delete();
    }
}
