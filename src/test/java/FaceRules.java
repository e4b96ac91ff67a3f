import java.io.IOException;
import java.io.UncheckedIOException;
import java.lang.reflect.Field;
import java.lang.reflect.Method;
import java.lang.reflect.Modifier;
import java.nio.file.Files;
import java.nio.file.Path;
import java.util.HashSet;
import java.util.Set;
import java.util.TreeSet;
import java.util.regex.Matcher;
import java.util.regex.Pattern;

/** Holds the class against the public face in the document and against the rules of the language that a text shows. */
final class FaceRules {
    private static final Path DOCUMENT = Path.of("../shared/DOC.md");
    private static final Path SOURCE = Path.of("src/main/java/CrateScale.java");

    private FaceRules() {
    }

    static void all() {
        faceIsTheDocuments();
        noOtherMemberIsVisible();
        sourceKeepsToTheLanguage();
    }

    private static void faceIsTheDocuments() {
        String document = read(DOCUMENT);
        String face = document.substring(document.indexOf("```java"), document.indexOf("## Terms"));
        Set<String> due = signatures(face);
        Set<String> got = signatures(read(SOURCE));
        Check.same("the face in the source", got, due);
        Check.same("the methods of the face", due.size(), 64);
    }

    private static Set<String> signatures(String text) {
        Set<String> found = new TreeSet<>();
        Matcher matcher = Pattern.compile("public (?:(\\w+) )?(\\w+)\\(([^)]*)\\)\\s*(throws [\\w, ]+?)?\\s*[;{]").matcher(text);
        while (matcher.find()) {
            found.add(matcher.group(1) + " " + matcher.group(2) + "(" + matcher.group(3) + ") " + matcher.group(4));
        }
        return found;
    }

    private static void noOtherMemberIsVisible() {
        Set<String> open = new HashSet<>();
        Set<String> hidden = new HashSet<>();
        for (Method method : CrateScale.class.getDeclaredMethods()) {
            boolean isPublic = Modifier.isPublic(method.getModifiers());
            Check.isTrue(method + " is public or private", isPublic || Modifier.isPrivate(method.getModifiers()));
            (isPublic ? open : hidden).add(method.getName());
        }
        for (Class<?> inner : CrateScale.class.getDeclaredClasses()) {
            Check.isTrue(inner + " is static", Modifier.isStatic(inner.getModifiers()));
            for (Method method : inner.getDeclaredMethods()) {
                hidden.add(method.getName());
            }
            Check.isTrue(inner + " has some twenty fields at most", inner.getDeclaredFields().length <= 20);
        }
        hidden.retainAll(open);
        Check.same("private methods with the name of a public one", hidden, Set.of());
        for (Field field : CrateScale.class.getDeclaredFields()) {
            boolean isConstant = Modifier.isPublic(field.getModifiers()) && Modifier.isStatic(field.getModifiers());
            Check.isTrue(field + " is private or a constant", isConstant || Modifier.isPrivate(field.getModifiers()));
        }
        Check.isTrue("some twelve classes at most", CrateScale.class.getDeclaredClasses().length <= 12);
    }

    private static void sourceKeepsToTheLanguage() {
        String source = read(SOURCE).replaceAll("(?s)/\\*.*?\\*/|//[^\n]*", "");
        String[] forbidden = {"\\btry\\b", "\\bcatch\\b", "\\bfinally\\b", "->", "::", "\\bassert\\b", "\\bsynchronized\\b",
            "\\bpackage\\b", "\\bprotected\\b", "\\bSystem\\.(?!arraycopy)", "\\bThread\\b", "Exact\\(", "\" \\+", "\\+ \"",
            "static \\{", "\\bRandom\\b", "\\brecord\\b", "\\bvar\\b"};
        for (String pattern : forbidden) {
            Check.isTrue("no " + pattern + " in the source", !Pattern.compile(pattern).matcher(source).find());
        }
        Matcher imports = Pattern.compile("import ([^;]+);").matcher(source);
        while (imports.find()) {
            Check.same("import", imports.group(1), "java.util.NoSuchElementException");
        }
    }

    private static String read(Path path) {
        try {
            return Files.readString(path);
        } catch (IOException e) {
            throw new UncheckedIOException(e);
        }
    }
}
