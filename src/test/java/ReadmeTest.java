import java.io.IOException;
import java.nio.file.Files;
import java.nio.file.Path;
import java.util.ArrayList;
import java.util.Comparator;
import java.util.List;
import java.util.stream.Collectors;
import java.util.stream.Stream;

/** What README.md shows works as it stands, in a copy of the sources; run where README.md lies. */
final class ReadmeTest {
    private static final Path README = Path.of("README.md");
    private static final Path SOURCES = Path.of("src");
    private static final Path EXAMPLE = Path.of("src/example/java/Example.java");
    private static final Path TESTS = Path.of("src/test/java");
    private static final String FENCE = "```";

    private record Block(String language, String text) {
    }

    public static void main(String[] args) throws IOException, InterruptedException {
        List<String> lines = Files.readAllLines(README);
        List<Block> blocks = blocks(lines);
        due(count(blocks, "java") == 1 && count(blocks, "text") == 1 && count(blocks, "sh") == 4,
                "one example, one output, four blocks of commands");
        Path copy = Files.createTempDirectory("readme");
        copySources(copy);
        for (int i = 0; i < blocks.size(); i++) {
            Block block = blocks.get(i);
            if (block.language.equals("java")) {
                due(block.text.equals(Files.readString(EXAMPLE)), "the example is the file " + EXAMPLE);
            } else if (block.language.equals("sh") && canRunHere(block)) {
                String printed = run(copy, block.text);
                String shown = i + 1 < blocks.size() && blocks.get(i + 1).language.equals("text")
                        ? blocks.get(i + 1).text : printed;
                due(shown.equals(printed), "the example prints what is shown; it prints\n" + printed);
            }
        }
        delete(copy);
        namesOfTests(String.join("\n", lines));
        Check.end();
    }

    private static void due(boolean good, String what) {
        Check.same(what, 1, good ? 1 : 0);
    }

    private static List<Block> blocks(List<String> lines) {
        List<Block> blocks = new ArrayList<>();
        String language = null;
        StringBuilder text = new StringBuilder();
        for (String line : lines) {
            if (!line.startsWith(FENCE)) {
                text.append(line).append('\n');
            } else if (language == null) {
                language = line.substring(FENCE.length());
                text.setLength(0);
            } else {
                blocks.add(new Block(language, text.toString()));
                language = null;
            }
        }
        due(language == null, "each block ends");
        return blocks;
    }

    private static long count(List<Block> blocks, String language) {
        return blocks.stream().filter(b -> b.language.equals(language)).count();
    }

    // .ci/run runs this test, and the shared tests with their own names.
    private static boolean canRunHere(Block block) {
        return !block.text.contains(".ci/run") && !block.text.contains("../shared");
    }

    private static void copySources(Path copy) throws IOException {
        for (Path from : under(SOURCES)) {
            Files.copy(from, copy.resolve(from));
        }
    }

    private static void delete(Path directory) throws IOException {
        List<Path> paths = under(directory);
        paths.sort(Comparator.reverseOrder());
        for (Path path : paths) {
            Files.delete(path);
        }
    }

    private static List<Path> under(Path directory) throws IOException {
        try (Stream<Path> paths = Files.walk(directory)) {
            return paths.collect(Collectors.toCollection(ArrayList::new));
        }
    }

    private static String run(Path directory, String commands) throws IOException, InterruptedException {
        Process process = new ProcessBuilder("sh", "-e", "-c", commands)
                .directory(directory.toFile()).redirectError(ProcessBuilder.Redirect.INHERIT).start();
        process.getOutputStream().close();
        String printed = new String(process.getInputStream().readAllBytes());
        Check.same("commands\n" + commands + "which printed\n" + printed, 0, process.waitFor());
        return printed;
    }

    private static void namesOfTests(String readme) throws IOException {
        try (Stream<Path> files = Files.list(TESTS)) {
            List<String> names = files.map(f -> f.getFileName().toString().replace(".java", ""))
                    .filter(n -> n.endsWith("Test")).collect(Collectors.toList());
            for (String name : names) {
                due(readme.contains("| `" + name + "` |"), name + " is told of in " + README);
            }
            long told = readme.lines().filter(l -> l.startsWith("| `")).count();
            Check.same("the tests told of in " + README, names.size(), told);
        }
    }
}
