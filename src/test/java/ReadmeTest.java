import java.io.IOException;
import java.nio.charset.StandardCharsets;
import java.nio.file.Files;
import java.nio.file.Path;
import java.util.Comparator;
import java.util.List;
import java.util.stream.Collectors;
import java.util.stream.Stream;

/** README.md's program is the file that it names, and its lines, run on a fresh copy, print what it shows. */
public final class ReadmeTest {
    private static final String MAIN = "src/main/java/TaleReader.java";
    private static final String EXAMPLE = "src/test/java/ReadmeExample.java";

    private static String readme;

    public static void main(String[] args) throws IOException, InterruptedException {
        readme = Files.readString(Path.of("README.md"));
        dueTheSame("README.md's program", block("java", 0), Files.readString(Path.of(EXAMPLE)));
        Path fresh = Files.createTempDirectory("readme");
        try {
            dueTheSame("README.md's lines", runIn(fresh, block("sh", 0)), block("text", 0));
        } finally {
            delete(fresh);
        }
        dueTheSame("how the tests are run", block("sh", 1), ".ci/run\n");
        Tales.due(".ci/run can be executed", Files.isExecutable(Path.of(".ci/run")), true);
        everyCallIsNamed();
        everyTestIsNamed();
        Tales.finish();
    }

    /** The which-th block of README.md that is marked with this kind. */
    private static String block(String kind, int which) {
        String[] parts = readme.split("(?m)^```" + kind + "\n", -1);
        if (which + 1 >= parts.length) {
            return "no such block";
        }
        String part = parts[which + 1];
        int end = part.indexOf("```");
        return end < 0 ? part : part.substring(0, end);
    }

    private static String runIn(Path directory, String lines) throws IOException, InterruptedException {
        for (String file : List.of(MAIN, EXAMPLE)) {
            Files.createDirectories(directory.resolve(file).getParent());
            Files.copy(Path.of(file), directory.resolve(file));
        }
        Process process = new ProcessBuilder("sh", "-e", "-c", lines)
            .directory(directory.toFile()).redirectError(ProcessBuilder.Redirect.INHERIT).start();
        process.getOutputStream().close();
        String printed = new String(process.getInputStream().readAllBytes(), StandardCharsets.UTF_8);
        Tales.due("README.md's lines end with", process.waitFor(), 0);
        return printed;
    }

    private static void delete(Path directory) throws IOException {
        try (Stream<Path> files = Files.walk(directory)) {
            for (Path file : files.sorted(Comparator.reverseOrder()).collect(Collectors.toList())) {
                Files.delete(file);
            }
        }
    }

    private static void everyCallIsNamed() {
        for (String call : "feed end read tell forget pin loose look mention person chain name who".split(" ")) {
            Tales.due("README.md names " + call, readme.contains("| `" + call + "("), true);
        }
    }

    private static void everyTestIsNamed() throws IOException {
        try (Stream<Path> files = Files.list(Path.of("src/test/java"))) {
            for (Path file : files.collect(Collectors.toList())) {
                String test = file.getFileName().toString().replace(".java", "");
                if (test.endsWith("Test") && !test.startsWith("Promise")) {
                    Tales.due("README.md names " + test, readme.contains("`" + test + "`"), true);
                }
            }
        }
    }

    private static void dueTheSame(String what, String got, String want) {
        if (!got.equals(want)) {
            System.out.println(what + ":\n" + got + "due is:\n" + want);
        }
        Tales.due(what + " as due", got.equals(want), true);
    }
}
