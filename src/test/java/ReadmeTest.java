import java.io.ByteArrayOutputStream;
import java.io.PrintStream;
import java.nio.file.Files;
import java.nio.file.Path;

/** README.md shows a program that runs, and what it prints. Runs in the project's folder. */
public final class ReadmeTest {
    public static void main(String[] args) throws Exception {
        Bench.about("README.md");
        String readme = Files.readString(Path.of("README.md"));
        String example = Files.readString(Path.of("src/test/java/Example.java"));
        Bench.due("the program", block(readme, "java"), example.substring(example.indexOf("public final class")));
        PrintStream before = System.out;
        ByteArrayOutputStream bytes = new ByteArrayOutputStream();
        System.setOut(new PrintStream(bytes, true));
        Example.main(args);
        System.setOut(before);
        Bench.due("what it prints", bytes.toString().replace("\r", ""), block(readme, "text"));
        Bench.due("the fault that is told", new Bench().compile("a = ;"), -66);
        Bench.end();
    }

    /** The first block of a kind. */
    private static String block(String text, String kind) {
        int start = text.indexOf("```" + kind + "\n") + kind.length() + 4;
        return text.substring(start, text.indexOf("```", start));
    }
}
