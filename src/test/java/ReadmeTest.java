import java.net.URL;
import java.net.URLClassLoader;
import java.nio.file.Files;
import java.nio.file.Path;
import java.util.ArrayList;
import java.util.List;
import java.util.regex.Matcher;
import java.util.regex.Pattern;
import javax.tools.JavaCompiler;
import javax.tools.ToolProvider;

/** The README's example is Java that compiles, and each answer that its comments tell is the one that comes. */
public final class ReadmeTest {
    private static final Check CHECK = new Check("ReadmeTest");
    private static final Pattern BLOCK = Pattern.compile("```java\n(.*?)```", Pattern.DOTALL);
    private static final Pattern ANSWER = Pattern.compile("( *)((?:int \\w+ = )?(x\\..*?));\\s*// (-?\\d+)\\b.*");

    public static void main(String[] args) throws Exception {
        String readme = Files.readString(Path.of("README.md"));
        Matcher block = BLOCK.matcher(readme);
        CHECK.due("an example in README.md", block.find() ? 1 : 0, 1);
        List<String> lines = new ArrayList<>();
        int told = 0;
        for (String line : block.group(1).split("\n")) {
            lines.add(withQuestion(line));
            told += ANSWER.matcher(line).matches() ? 1 : 0;
        }
        CHECK.due("answers that it tells, twenty at least", Math.min(told, 20), 20);
        runExample(String.join("\n", lines));
        for (String test : testsOfTheProject()) {
            CHECK.due("README.md names " + test, readme.contains("`" + test + "`") ? 1 : 0, 1);
        }
        CHECK.end();
    }

    /** A line with an answer in its comment, as one that ends the example if another answer comes. */
    private static String withQuestion(String line) {
        Matcher answer = ANSWER.matcher(line);
        if (!answer.matches()) {
            return line;
        }
        String call = answer.group(3);
        String name = answer.group(2).equals(call) ? call : answer.group(2).split(" ")[1];
        String first = answer.group(2).equals(call) ? "" : answer.group(2) + "; ";
        return first + "due(\"" + call + "\", " + name + ", " + answer.group(4) + "L);";
    }

    private static void runExample(String lines) throws Exception {
        Path room = Files.createTempDirectory("readme");
        Path file = room.resolve("Example.java");
        Files.writeString(file, "public class Example implements Runnable {\n"
            + "private static void due(String call, long got, long want) {\n"
            + "if (got != want) { throw new IllegalStateException(call + \" answered \" + got + \", not \" + want); }\n"
            + "}\npublic void run() {\n" + lines + "\n}\n}\n");
        JavaCompiler compiler = ToolProvider.getSystemJavaCompiler();
        String path = System.getProperty("java.class.path");
        int compiled = compiler.run(null, null, null, "-cp", path, "-d", room.toString(), file.toString());
        CHECK.due("javac of the example", compiled, 0);
        try (URLClassLoader loader = new URLClassLoader(new URL[] {room.toUri().toURL()})) {
            ((Runnable) loader.loadClass("Example").getConstructor().newInstance()).run();
        } catch (ReflectiveOperationException | IllegalStateException e) {
            CHECK.due("the example ended with " + e, 1, 0);
        }
        Files.deleteIfExists(room.resolve("Example.class"));
        Files.delete(file);
        Files.delete(room);
    }

    private static List<String> testsOfTheProject() throws Exception {
        try (var files = Files.list(Path.of("src", "test", "java"))) {
            return files.map(file -> file.getFileName().toString().replace(".java", ""))
                .filter(name -> name.endsWith("Test")).sorted().toList();
        }
    }
}
