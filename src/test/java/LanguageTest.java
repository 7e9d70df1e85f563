import java.io.IOException;
import java.nio.file.Files;
import java.nio.file.Path;
import java.util.regex.Matcher;
import java.util.regex.Pattern;

/** The rules of LANGUAGE.md that can be seen by a look at the words of the program; run it from the project's folder. */
public final class LanguageTest {
    private static final Path PROGRAM = Path.of("src/main/java/TileRunners.java");
    private static final String[] FORBIDDEN = {
        "\\b(try|catch|finally|synchronized|assert|volatile|native|package|protected)\\b", "->", "::",
        "\\bstatic\\s*\\{", "\\b(Object|System\\.(in|out|err|nanoTime|currentTimeMillis)|Random|Thread)\\b",
        "\\w+Exact\\b", "\\bimport (?!java\\.util\\.(NoSuchElementException|ArrayList|List|Arrays);)",
        "\\b(equals|hashCode|toString|getMessage)\\s*\\(", "\"\\s*\\+|\\+\\s*\"", "[^\\x00-\\x7f]",
    };
    private static final int LONGEST_METHOD = 60;

    private static int wrong = 0;

    private static void fault(int line, String what) {
        wrong++;
        System.out.println("LanguageTest: line " + line + ": " + what);
    }

    private static void checkWords(String[] lines) {
        for (String words : FORBIDDEN) {
            Pattern pattern = Pattern.compile(words);
            for (int i = 0; i < lines.length; i++) {
                Matcher found = pattern.matcher(lines[i].replaceFirst("(//|/\\*\\*).*", ""));
                if (found.find()) {
                    fault(i + 1, "holds '" + found.group() + "'");
                }
            }
        }
    }

    private static void checkLengths(String[] lines) {
        Pattern head = Pattern.compile("^( {4}| {8})[A-Za-z][\\w\\[\\] ]*\\([^;]*$");
        int start = -1;
        String end = "";
        for (int i = 0; i < lines.length; i++) {
            Matcher method = head.matcher(lines[i]);
            if (start < 0 && method.find()) {
                start = i;
                end = method.group(1) + "}";
            } else if (start >= 0 && lines[i].equals(end)) {
                if (i - start >= LONGEST_METHOD) {
                    fault(start + 1, "a method of " + (i - start + 1) + " lines");
                }
                start = -1;
            }
        }
    }

    public static void main(String[] args) throws IOException {
        String[] lines = Files.readString(PROGRAM).split("\n");
        checkWords(lines);
        checkLengths(lines);
        System.out.println(wrong == 0 ? "the language is as due" : wrong + " faults of the language");
        if (wrong != 0) {
            System.exit(1);
        }
    }
}
