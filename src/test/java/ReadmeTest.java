import java.io.IOException;
import java.nio.file.FileVisitResult;
import java.nio.file.Files;
import java.nio.file.Path;
import java.nio.file.SimpleFileVisitor;
import java.nio.file.attribute.BasicFileAttributes;
import java.util.ArrayList;
import java.util.List;
import java.util.concurrent.TimeUnit;
import java.util.regex.Matcher;
import java.util.regex.Pattern;
import java.util.stream.Stream;

/** The commands of README.md work as they stand there; .ci/run starts it at the project's root. */
public final class ReadmeTest {
    private static final Pattern BLOCK = Pattern.compile("(?m)^```(\\w+)\n((?s:.*?))^```$");
    private static final String ALL_TESTS = ".ci/run\n";
    private static final int MOST_SECONDS = 120;

    /** A block of the page: its language and its lines. */
    private record Block(String language, String text) {
    }

    public static void main(String[] args) throws IOException, InterruptedException {
        String page = Files.readString(Path.of("README.md"));
        List<Block> use = blocksOf(section(page, "## How to use it\n"));
        List<Block> tests = blocksOf(section(page, "## How to run its tests\n"));
        Path copy = Files.createTempDirectory("readme");
        try {
            // the commands meet what a clean checkout has, and nothing that was compiled before
            copyTree(Path.of("src"), copy.resolve("src"));
            usesTheClass(use, copy);
            runsTheTests(tests, copy);
        } finally {
            deleteTree(copy);
        }
        Check.end();
    }

    private static void usesTheClass(List<Block> blocks, Path copy) throws IOException, InterruptedException {
        Check.same("the blocks on its use", languagesOf(blocks), List.of("sh", "text", "java"));
        if (blocks.size() == 3) {
            Check.same(blocks.get(0).text, outputOf(blocks.get(0).text, copy), blocks.get(1).text + "exit code 0");
            Check.same("the program on the page", blocks.get(2).text,
                    Files.readString(Path.of("src/test/java/Example.java")));
        }
    }

    private static void runsTheTests(List<Block> blocks, Path copy) throws IOException, InterruptedException {
        Check.same("the blocks on its tests", languagesOf(blocks), List.of("sh", "sh"));
        if (blocks.size() == 2) {
            // not started here, since it is what has started this test
            Check.same("all tests", blocks.get(0).text, ALL_TESTS);
            Check.isTrue(".ci/run is executable", Files.isExecutable(Path.of(".ci/run")));
            Check.same(blocks.get(1).text, outputOf(blocks.get(1).text, copy), "exit code 0");
        }
    }

    private static String section(String page, String head) {
        int from = page.indexOf(head);
        Check.isTrue("the page has " + head, from >= 0);
        int end = from < 0 ? -1 : page.indexOf("\n## ", from + head.length());
        return from < 0 ? "" : page.substring(from, end < 0 ? page.length() : end);
    }

    private static List<Block> blocksOf(String section) {
        List<Block> blocks = new ArrayList<>();
        Matcher matcher = BLOCK.matcher(section);
        while (matcher.find()) {
            blocks.add(new Block(matcher.group(1), matcher.group(2)));
        }
        return blocks;
    }

    private static List<String> languagesOf(List<Block> blocks) {
        return blocks.stream().map(Block::language).toList();
    }

    private static String outputOf(String commands, Path folder) throws IOException, InterruptedException {
        Path output = folder.resolve("output");
        Process process = new ProcessBuilder("bash", "-e", "-c", commands).directory(folder.toFile())
                .redirectErrorStream(true).redirectOutput(output.toFile()).start();
        if (!process.waitFor(MOST_SECONDS, TimeUnit.SECONDS)) {
            process.destroyForcibly();
            return "no end";
        }
        return Files.readString(output) + "exit code " + process.exitValue();
    }

    private static void copyTree(Path from, Path to) throws IOException {
        try (Stream<Path> paths = Files.walk(from)) {
            for (Path path : (Iterable<Path>) paths::iterator) {
                Path place = to.resolve(from.relativize(path));
                if (Files.isDirectory(path)) {
                    Files.createDirectories(place);
                } else if (path.toString().endsWith(".java")) {
                    Files.copy(path, place);
                }
            }
        }
    }

    private static void deleteTree(Path root) throws IOException {
        Files.walkFileTree(root, new SimpleFileVisitor<>() {
            @Override
            public FileVisitResult visitFile(Path file, BasicFileAttributes attributes) throws IOException {
                Files.delete(file);
                return FileVisitResult.CONTINUE;
            }

            @Override
            public FileVisitResult postVisitDirectory(Path folder, IOException e) throws IOException {
                Files.delete(folder);
                return FileVisitResult.CONTINUE;
            }
        });
    }
}
