import java.io.IOException;
import java.io.UncheckedIOException;
import java.nio.file.Files;
import java.nio.file.Path;
import java.util.ArrayList;
import java.util.HashSet;
import java.util.LinkedHashMap;
import java.util.List;
import java.util.Map;
import java.util.Set;
import java.util.regex.Matcher;
import java.util.regex.Pattern;

/** The document in sentences, so that none of them is left without a test. */
final class Document {
    private static final Path FILE = Path.of("../shared/DOC.md");
    private static final Pattern PROMISE = Pattern.compile("## (Promise \\d+):.*");
    private static final Pattern NUMBERED = Pattern.compile("(\\d)\\. (.*)");
    private static final Pattern FACE = Pattern.compile("^`[^`]*\\([^`]*\\)[^`]*`: ");
    /** Lines that only lead to what follows them. */
    private static final Pattern TITLE = Pattern.compile("#.*|Crates\\.|Readings\\.|Buyers\\.|Texts\\.|Changes and exceptions\\."
        + "|The (statements of a setup text|statements of a script|error codes) are:");
    private static final Set<String> NOT_ABOUT_THE_CLASS = Set.of("The public face", "Not promised");

    private final Map<String, List<String>> sentences = new LinkedHashMap<>();
    private final Set<String> tested = new HashSet<>();

    Document() {
        String section = "";
        for (String line : lines()) {
            Matcher promise = PROMISE.matcher(line);
            Matcher numbered = NUMBERED.matcher(line);
            boolean isTerm = section.startsWith("Terms") && numbered.matches();
            if (promise.matches()) {
                section = promise.group(1);
            } else if (line.startsWith("## ")) {
                section = line.substring(3);
            } else if (line.startsWith("The constants: ")) {
                section = "Constants";
                add(section, line.substring(15));
            } else {
                section = isTerm ? "Terms " + numbered.group(1) : section;
                add(section, isTerm ? numbered.group(2) : line);
            }
        }
    }

    private static List<String> lines() {
        try {
            return Files.readAllLines(FILE);
        } catch (IOException e) {
            throw new UncheckedIOException(e);
        }
    }

    private void add(String section, String line) {
        String text = FACE.matcher(line.strip()).replaceFirst("");
        if (text.isEmpty() || text.startsWith("```") || NOT_ABOUT_THE_CLASS.contains(section)) {
            return;
        }
        for (String part : text.split(" +\\| +|(?<=\\.) (?=[A-Z])")) {
            if (!TITLE.matcher(part).matches()) {
                sentences.computeIfAbsent(section, key -> new ArrayList<>()).add(part);
            }
        }
    }

    /** Notes that a test is about this sentence; false if the document does not say it there. */
    boolean isTold(String section, String says) {
        boolean isFound = false;
        for (String sentence : sentences.getOrDefault(section, List.of())) {
            if (sentence.contains(says)) {
                tested.add(section + ": " + sentence);
                isFound = true;
            }
        }
        return isFound;
    }

    List<String> untested() {
        List<String> left = new ArrayList<>();
        sentences.forEach((section, list) -> {
            for (String sentence : list) {
                if (!tested.contains(section + ": " + sentence)) {
                    left.add(section + ": " + sentence);
                }
            }
        });
        return left;
    }
}
