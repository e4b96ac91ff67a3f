import java.io.File;
import java.io.IOException;
import java.nio.file.FileVisitOption;
import java.nio.file.Files;
import java.nio.file.Path;
import java.util.ArrayList;
import java.util.Comparator;
import java.util.HashSet;
import java.util.List;
import java.util.Set;
import java.util.regex.Matcher;
import java.util.regex.Pattern;
import java.util.stream.Stream;

/** Does in a copy of the project what README.md says: runs its commands, and its program as it stands there. */
public final class ReadmeRuns {
    private static final Path README = Path.of("README.md");

    private ReadmeRuns() {
    }

    public static void main(String[] args) throws IOException, InterruptedException {
        String text = Files.readString(README);
        Path base = Files.createTempDirectory("readme");
        try {
            Path project = base.resolve("project");
            copy(Path.of("src"), project.resolve("src"));
            copy(Path.of("../shared"), base.resolve("shared"));
            String program = blocks(text, "java").get(0);
            Files.writeString(project.resolve("Example.java"), program);
            List<String> commands = blocks(text, "sh");
            Check.same("blocks of commands", commands.size(), 2);
            Check.same("what the program prints", run(commands.get(0), project), String.join("\n", due(program)));
            Check.isTrue("the tests run", run(commands.get(1), project).matches("(?s).*\\d+ passed, 0 failed"));
        } finally {
            delete(base);
        }
        codesAreAsNamed(text);
        statementsAreTheDocuments(text);
        methodsAreKnown(text);
        System.out.println("README.md: " + Check.passed + " passed, " + Check.failed + " failed");
        if (Check.failed != 0) {
            System.exit(1);
        }
    }

    private static List<String> blocks(String text, String kind) {
        List<String> found = new ArrayList<>();
        Matcher matcher = Pattern.compile("(?s)\n```" + kind + "\n(.*?)```").matcher(text);
        while (matcher.find()) {
            found.add(matcher.group(1));
        }
        return found;
    }

    private static List<String> due(String program) {
        List<String> lines = new ArrayList<>();
        Matcher matcher = Pattern.compile("// -> (.*)").matcher(program);
        while (matcher.find()) {
            lines.add(matcher.group(1));
        }
        return lines;
    }

    private static String run(String commands, Path where) throws IOException, InterruptedException {
        File output = where.resolve("output").toFile();
        Process process = new ProcessBuilder("sh", "-e", "-c", commands).directory(where.toFile())
            .redirectErrorStream(true).redirectOutput(output).start();
        Check.same("exit code of:\n" + commands, process.waitFor(), 0);
        return Files.readString(output.toPath()).strip();
    }

    private static void codesAreAsNamed(String text) {
        Matcher row = Pattern.compile("\n\\| (\\d) \\| `(\\w+)` \\|").matcher(text);
        int rows = 0;
        while (row.find()) {
            rows++;
            try {
                Check.same(row.group(2), CrateScale.class.getField(row.group(2)).get(null), Integer.parseInt(row.group(1)));
            } catch (ReflectiveOperationException e) {
                Check.same(row.group(2), e, "a constant");
            }
        }
        Check.same("codes", rows, 8);
    }

    private static void statementsAreTheDocuments(String text) throws IOException {
        String document = Files.readString(Path.of("../shared/DOC.md"));
        Matcher statement = Pattern.compile("`([a-zA-Z ]+);`").matcher(text);
        Set<String> found = new HashSet<>();
        while (statement.find()) {
            found.add(statement.group(1));
            Check.isTrue(statement.group(1) + " is a statement", document.contains("  " + statement.group(1)));
        }
        Check.same("statements of a setup and of a script, noise and aging being of both", found.size(), 8 + 9 - 2);
    }

    /** What stands in the text as a name of a method is one. */
    private static void methodsAreKnown(String text) {
        List<String> methods = new ArrayList<>(List.of("type"));
        for (var method : CrateScale.class.getMethods()) {
            methods.add(method.getName());
        }
        Matcher name = Pattern.compile("`([a-z]+[A-Z]\\w*)`").matcher(text);
        while (name.find()) {
            Check.isTrue(name.group(1) + " is a method", methods.contains(name.group(1)));
        }
    }

    private static void copy(Path from, Path to) throws IOException {
        try (Stream<Path> files = Files.walk(from, FileVisitOption.FOLLOW_LINKS)) {
            for (Path file : (Iterable<Path>) files::iterator) {
                Path target = to.resolve(from.relativize(file).toString());
                if (Files.isDirectory(file)) {
                    Files.createDirectories(target);
                } else {
                    Files.copy(file, target);
                }
            }
        }
    }

    private static void delete(Path base) throws IOException {
        try (Stream<Path> files = Files.walk(base)) {
            for (Path file : (Iterable<Path>) files.sorted(Comparator.reverseOrder())::iterator) {
                Files.delete(file);
            }
        }
    }
}
