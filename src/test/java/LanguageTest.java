import java.io.IOException;
import java.nio.file.Files;
import java.nio.file.Path;
import java.util.List;

/** What LANGUAGE.md rules out and a look at the program's lines can find. */
public final class LanguageTest {
    private static final String[] RULED_OUT = {"->", "::", "try {", "catch (", "finally", "synchronized", "assert ",
        "static {", "protected ", "extends ", "instanceof", "equals(", "hashCode", "toString", "Object", "System.in",
        "System.out", "currentTimeMillis", "nanoTime", "Random", "Thread", "Exact(", "double ", "\" +", "+ \"",
        "while (true)", "for (;;)", "@", "var "};

    public static void main(String[] args) throws IOException {
        List<String> lines = Files.readAllLines(Path.of("src/main/java/ElectionTabulator.java"));
        int methodStart = -1;
        for (int i = 0; i < lines.size(); i++) {
            String line = lines.get(i);
            String place = "line " + (i + 1);
            for (String wrong : RULED_OUT) {
                Check.is(place + " has " + wrong, line.contains(wrong) ? 1 : 0, 0);
            }
            boolean rightImport = !line.startsWith("import ")
                || line.equals("import java.util.NoSuchElementException;");
            Check.is(place + " imports what it may", rightImport ? 1 : 0, 1);
            Check.is(place + " has a package", line.startsWith("package ") ? 1 : 0, 0);
            for (int k = 0; k < line.length(); k++) {
                Check.is("a sign in " + place, line.charAt(k) < 128 ? 1 : 0, 1);
            }
            if (line.matches(" {4}( {4})?[a-zA-Z].*\\) (throws .*)?\\{")) {
                methodStart = i;
            }
            if (line.matches(" {4}( {4})?\\}") && methodStart >= 0) {
                Check.is("a method of at most 60 lines before " + place, i - methodStart <= 60 ? 1 : 0, 1);
                methodStart = -1;
            }
        }
        Check.is("the program was read", lines.size() > 100 ? 1 : 0, 1);
        Check.end();
    }
}
