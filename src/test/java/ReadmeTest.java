import java.io.ByteArrayOutputStream;
import java.io.IOException;
import java.io.PrintStream;
import java.lang.reflect.Method;
import java.net.URL;
import java.net.URLClassLoader;
import java.nio.file.Files;
import java.nio.file.Path;
import java.util.ArrayList;
import java.util.Comparator;
import java.util.List;
import java.util.regex.Matcher;
import java.util.regex.Pattern;
import java.util.stream.Stream;
import javax.tools.ToolProvider;

/** README.md says what is so: its program prints what stands there, it tells every call of the document's face, it names every test. */
public final class ReadmeTest {
    private static int wrong = 0;

    private static void hold(boolean holds, String what) {
        if (holds) return;
        wrong++;
        System.out.println("not so: " + what);
    }

    private static List<String> found(String text, String pattern) {
        List<String> all = new ArrayList<>();
        Matcher m = Pattern.compile(pattern, Pattern.DOTALL).matcher(text);
        while (m.find()) all.add(m.group(1));
        return all;
    }

    private static void program(String readme) throws Exception {
        List<String> programs = found(readme, "```java\n(.*?)```"), prints = found(readme, "```text\n(.*?)```");
        hold(programs.size() == 1 && prints.size() == 1, "there is one program, and what it prints");
        if (wrong > 0) return;
        Path folder = Files.createTempDirectory("readme");
        try {
            Path source = Files.writeString(folder.resolve("Morning.java"), programs.get(0));
            int failed = ToolProvider.getSystemJavaCompiler().run(null, System.out, System.out, "-Xlint:all", "-Werror", "-proc:none",
                "-d", folder.toString(), "src/main/java/BullStreet.java", source.toString());
            hold(failed == 0, "the program compiles");
            if (failed == 0) hold(printedBy(folder).equals(prints.get(0)), "the program prints what stands there, not:\n" + printedBy(folder));
        } finally {
            remove(folder);
        }
    }

    /** A loader of its own, without the test's classes: the program meets only what it was compiled with. */
    private static String printedBy(Path folder) throws Exception {
        PrintStream before = System.out;
        ByteArrayOutputStream bytes = new ByteArrayOutputStream();
        try (URLClassLoader loader = new URLClassLoader(new URL[] {folder.toUri().toURL()}, ClassLoader.getPlatformClassLoader())) {
            Method main = loader.loadClass("Morning").getMethod("main", String[].class);
            System.setOut(new PrintStream(bytes, true));
            main.invoke(null, (Object) new String[0]);
        } finally {
            System.setOut(before);
        }
        return bytes.toString().replace(System.lineSeparator(), "\n");
    }

    private static void remove(Path folder) throws IOException {
        try (Stream<Path> all = Files.walk(folder)) {
            for (Path each : all.sorted(Comparator.reverseOrder()).toList()) Files.delete(each);
        }
    }

    /** Each call of the face has a row that begins with it, its arguments named as the document names them; no other row tells a call. */
    private static void calls(String readme, String document) {
        List<String> due = new ArrayList<>();
        for (String each : found(document, "public int (\\w+\\([^)]*\\));")) due.add(each.replaceAll("\\b(int|long) ", ""));
        hold(due.size() == 38, "the document's face has 38 calls, not " + due.size());
        hold(found(readme, "\n\\| `([^`]*)` \\|").equals(due), "the calls are told once each, in the document's order");
        for (String row : found(readme, "\n(\\| `[^\n]*)")) hold(row.matches("\\|( [^|]*\\|){4}") || row.matches("\\|( [^|]*\\|){3} \\|"), "four parts: " + row);
    }

    private static void refusals(String readme) {
        hold(readme.contains("`BullStreet.BAD` (" + BullStreet.BAD + ")"), "BAD is told");
        hold(readme.contains("`BullStreet.FULL` (" + BullStreet.FULL + ")"), "FULL is told");
        hold(readme.contains("`BullStreet.NONE` (" + BullStreet.NONE + ")"), "NONE is told");
        hold(readme.contains("`BullStreet.STATE` (" + BullStreet.STATE + ")"), "STATE is told");
    }

    private static void tests(String readme) throws IOException {
        try (Stream<Path> all = Files.list(Path.of("src/test/java"))) {
            for (Path each : all.toList()) {
                String name = each.getFileName().toString().replace(".java", "");
                hold(readme.contains("`" + name + "`"), name + " is named");
            }
        }
        for (String each : found(readme, "`(\\w+(?:Test|Model))`")) hold(Files.exists(Path.of("src/test/java", each + ".java")), "there is a " + each);
    }

    public static void main(String[] args) throws Exception {
        String readme = Files.readString(Path.of("README.md"));
        program(readme);
        calls(readme, Files.readString(Path.of("../shared/DOC.md")));
        refusals(readme);
        tests(readme);
        System.out.println(wrong == 0 ? "README.md says what is so" : wrong + " things are not as README.md says");
        if (wrong != 0) System.exit(1);
    }
}
