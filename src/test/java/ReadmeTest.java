import java.io.IOException;
import java.nio.file.Files;
import java.nio.file.Path;
import java.util.ArrayList;
import java.util.Comparator;
import java.util.List;
import java.util.stream.Stream;

/** The commands of README.md work on a copy in which nothing is built, and print what README.md says. */
public final class ReadmeTest {
    private static final Path ROOT = Path.of("build", "readme");
    private static final Path COPY = ROOT.resolve("main");
    private static final String WHOLE_RUN = ".ci/run";
    private static final Check CHECK = new Check("ReadmeTest");

    /** A fenced block: the word behind the fence, and the lines. */
    private record Block(String kind, String lines) { }

    public static void main(String[] args) throws IOException, InterruptedException {
        List<Block> blocks = blocks(Files.readString(Path.of("README.md")));
        emptyOut(ROOT);
        copy(Path.of("src"), COPY.resolve("src"));
        copy(Path.of("..", "shared", "tests"), ROOT.resolve("shared").resolve("tests"));
        runAll(blocks);
        wholeRun(blocks);
        javaOfThePage(blocks);
        CHECK.finish();
    }

    private static List<Block> blocks(String page) {
        List<Block> blocks = new ArrayList<>();
        String kind = null;
        StringBuilder lines = new StringBuilder();
        for (String line : page.split("\n")) {
            if (line.startsWith("```") && kind == null) {
                kind = line.substring(3);
                lines.setLength(0);
            } else if (line.startsWith("```")) {
                blocks.add(new Block(kind, lines.toString()));
                kind = null;
            } else if (kind != null) {
                lines.append(line).append('\n');
            }
        }
        CHECK.yes("all blocks end", kind == null);
        return blocks;
    }

    private static void runAll(List<Block> blocks) throws IOException, InterruptedException {
        String printed = "";
        int ran = 0;
        int compared = 0;
        for (Block block : blocks) {
            if (block.kind.equals("sh") && !block.lines.strip().equals(WHOLE_RUN)) {
                printed = run(block.lines, COPY);
                ran++;
            } else if (block.kind.equals("text")) {
                CHECK.yes("the page says what is printed:\n" + printed, printed.equals(block.lines));
                compared++;
            }
        }
        CHECK.yes("built, used, one test, the shared ones", ran == 4 && compared == 1);
        CHECK.yes("the class is built", Files.exists(COPY.resolve("build/class/SinkingArchive.class")));
    }

    /** This test is part of the whole run, so it can but look that there is one. */
    private static void wholeRun(List<Block> blocks) {
        int named = 0;
        for (Block block : blocks) {
            if (block.kind.equals("sh") && block.lines.strip().equals(WHOLE_RUN)) {
                named++;
            }
        }
        CHECK.due("the whole run is named", named, 1);
        CHECK.yes("it is there", Files.isRegularFile(Path.of(".ci", "run")));
    }

    private static void javaOfThePage(List<Block> blocks) throws IOException, InterruptedException {
        Path at = Files.createDirectories(ROOT.resolve("page"));
        int seen = 0;
        for (Block block : blocks) {
            if (block.kind.equals("java")) {
                seen++;
                String program = "public class Page { public static void main(String[] args) {\n" + block.lines
                    + "System.out.println(x.about(1)); } }\n";
                Files.writeString(at.resolve("Page.java"), program);
                String printed = run("javac --release 17 -cp ../main/build/class -d . Page.java\n"
                    + "java -cp ../main/build/class:. Page\n", at);
                CHECK.yes("the lines of Java raise a tower of 4 records: " + printed, printed.equals("4\n"));
            }
        }
        CHECK.due("lines of Java", seen, 1);
    }

    private static String run(String commands, Path where) throws IOException, InterruptedException {
        Process process = new ProcessBuilder("sh", "-eu", "-c", commands).directory(where.toFile())
            .redirectError(ProcessBuilder.Redirect.INHERIT).start();
        process.getOutputStream().close();
        String printed = new String(process.getInputStream().readAllBytes());
        int code = process.waitFor();
        CHECK.due(commands + printed + "exit code", code, 0);
        return printed;
    }

    private static void copy(Path from, Path to) throws IOException {
        try (Stream<Path> files = Files.walk(from)) {
            for (Path file : files.toList()) {
                Path copied = to.resolve(from.relativize(file).toString());
                if (Files.isDirectory(file)) {
                    Files.createDirectories(copied);
                } else {
                    Files.write(copied, Files.readAllBytes(file));
                }
            }
        }
    }

    private static void emptyOut(Path at) throws IOException {
        if (!Files.exists(at)) {
            return;
        }
        try (Stream<Path> files = Files.walk(at)) {
            for (Path file : files.sorted(Comparator.reverseOrder()).toList()) {
                Files.delete(file);
            }
        }
    }
}
