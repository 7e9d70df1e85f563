import java.io.IOException;
import java.lang.reflect.Field;
import java.lang.reflect.Method;
import java.lang.reflect.Modifier;
import java.nio.file.Files;
import java.nio.file.Path;
import java.util.ArrayList;
import java.util.HashSet;
import java.util.LinkedHashMap;
import java.util.List;
import java.util.Map;
import java.util.Set;
import java.util.TreeSet;
import java.util.regex.Matcher;
import java.util.regex.Pattern;

/** The rules of LANGUAGE.md that can be seen by a look at the words of the program; run it from the project's folder. */
public final class LanguageTest {
    private static final Path PROGRAM = Path.of("src/main/java/TileRunners.java");
    private static final String[] FORBIDDEN = {
        "\\b(try|catch|finally|synchronized|assert|volatile|native|package|protected)\\b", "->", "::",
        "\\bstatic\\s*\\{", "\\b(Object|System\\.(in|out|err|nanoTime|currentTimeMillis)|Random|Thread)\\b",
        "\\w+Exact\\b", "\\bimport (?!java\\.util\\.(NoSuchElementException|ArrayList|List|Arrays);)",
        "\\b(equals|hashCode|toString|getMessage)\\s*\\(", "\"\\s*\\+|\\+\\s*\"", "[^\\x00-\\x7f]",
        // The library that is permitted has functions, but no constants.
        "\\b(Integer|Long|Short|Byte|Character|Math|Float|Double)\\.[A-Z]\\w*",
        "\\b(Math|Integer|Long)\\.(?!(abs|max|min|compare|bitCount|floorDiv|floorMod)\\()",
        "\\bSystem\\.(?!arraycopy\\()",
    };
    private static final int LONGEST_METHOD = 60;
    private static final int MOST_PARAMETERS = 7;
    private static final int MOST_CLASSES = 12;
    private static final int MOST_FIELDS = 20;
    private static final int DEEPEST_CALL = 8;

    private static final Pattern HEAD = Pattern.compile("^( {4}| {8})[A-Za-z][\\w\\[\\] ]*?(\\w+)\\([^;]*$");
    private static final Pattern CLASS = Pattern.compile("^(?: {4})?(?:public |private )(?:static )?final class (\\w+)");
    private static final Pattern CALL = Pattern.compile("(\\bnew\\s+|\\b\\w+(?:\\[[^\\]]*\\])?\\.)?\\b(\\w+)\\(");

    /** A method, with the lines of its body. */
    private static final class Part {
        final String owner;
        final String name;
        final int start;
        int end;
        final Set<String> calls = new TreeSet<>();

        Part(String owner, String name, int start) {
            this.owner = owner;
            this.name = name;
            this.start = start;
        }

        String key() {
            return owner + "." + name;
        }
    }

    private static int wrong = 0;

    private static void fault(int line, String what) {
        wrong++;
        System.out.println("LanguageTest: line " + line + ": " + what);
    }

    private static void checkWords(String[] lines) {
        for (String words : FORBIDDEN) {
            Pattern pattern = Pattern.compile(words);
            for (int i = 0; i < lines.length; i++) {
                Matcher found = pattern.matcher(lines[i].replaceFirst("(//|/\\*\\*).*", ""));
                if (found.find()) {
                    fault(i + 1, "holds '" + found.group() + "'");
                }
            }
        }
    }

    private static List<Part> partsOf(String[] lines) {
        List<Part> parts = new ArrayList<>();
        String owner = "";
        String end = null;
        for (int i = 0; i < lines.length; i++) {
            Matcher type = CLASS.matcher(lines[i]);
            Matcher method = HEAD.matcher(lines[i]);
            if (end == null && type.find()) {
                owner = type.group(1);
            } else if (end == null && method.find()) {
                parts.add(new Part(owner, method.group(2), i));
                end = method.group(1) + "}";
            } else if (lines[i].equals(end)) {
                parts.get(parts.size() - 1).end = i;
                end = null;
            } else if (lines[i].equals("    }")) {
                owner = "TileRunners";
            }
        }
        return parts;
    }

    private static void checkLengths(List<Part> parts) {
        for (Part part : parts) {
            int length = part.end - part.start + 1;
            if (length > LONGEST_METHOD) {
                fault(part.start + 1, "a method of " + length + " lines");
            }
        }
    }

    // ---- The depth of calls ----

    private static void findCalls(List<Part> parts, String[] lines) {
        for (Part part : parts) {
            for (int i = part.start + 1; i < part.end; i++) {
                Matcher call = CALL.matcher(lines[i].replaceFirst("(//|/\\*\\*).*", ""));
                while (call.find()) {
                    part.calls.addAll(meant(parts, part, call.group(1), call.group(2)));
                }
            }
        }
    }

    /** The methods that a call can mean: those of the own class, or, behind a dot, those of any class. */
    private static Set<String> meant(List<Part> parts, Part caller, String before, String name) {
        Set<String> own = new TreeSet<>();
        Set<String> all = new TreeSet<>();
        for (Part part : parts) {
            if (part.name.equals(name)) {
                all.add(part.key());
                if (part.owner.equals(caller.owner)) {
                    own.add(part.key());
                }
            }
        }
        return before == null && !own.isEmpty() ? own : all;
    }

    private static List<String> deepest(Map<String, Set<String>> calls, String from, Set<String> open) {
        List<String> longest = new ArrayList<>();
        open.add(from);
        for (String to : calls.get(from)) {
            if (!open.contains(to)) {
                List<String> chain = deepest(calls, to, open);
                if (chain.size() > longest.size()) {
                    longest = chain;
                }
            }
        }
        open.remove(from);
        longest.add(0, from);
        return longest;
    }

    private static void checkDepth(List<Part> parts) {
        Map<String, Set<String>> calls = new LinkedHashMap<>();
        for (Part part : parts) {
            calls.computeIfAbsent(part.key(), key -> new TreeSet<>()).addAll(part.calls);
        }
        for (Part part : parts) {
            List<String> chain = deepest(calls, part.key(), new HashSet<>());
            if (chain.size() > DEEPEST_CALL) {
                fault(part.start + 1, "calls " + chain.size() + " deep: " + chain);
            }
        }
    }

    // ---- The classes ----

    private static void checkClasses() {
        Class<?>[] inner = TileRunners.class.getDeclaredClasses();
        if (inner.length + 1 > MOST_CLASSES) {
            fault(1, (inner.length + 1) + " classes");
        }
        checkClass(TileRunners.class);
        for (Class<?> type : inner) {
            checkClass(type);
            int modifiers = type.getModifiers();
            if (!Modifier.isStatic(modifiers) || Modifier.isPublic(modifiers) || Modifier.isProtected(modifiers)) {
                fault(1, type + " is not a private static class");
            }
            for (Method method : type.getDeclaredMethods()) {
                if (bearsPublicName(method)) {
                    fault(1, method + " bears the name of a public method");
                }
            }
        }
    }

    private static boolean bearsPublicName(Method method) {
        for (Method face : TileRunners.class.getDeclaredMethods()) {
            if (Modifier.isPublic(face.getModifiers()) && face.getName().equals(method.getName())) {
                return true;
            }
        }
        return false;
    }

    private static void checkClass(Class<?> type) {
        int fields = 0;
        for (Field field : type.getDeclaredFields()) {
            boolean isStatic = Modifier.isStatic(field.getModifiers());
            fields += isStatic ? 0 : 1;
            if (isStatic && !Modifier.isFinal(field.getModifiers())) {
                fault(1, field + " is not final");
            }
        }
        if (fields > MOST_FIELDS) {
            fault(1, type + " has " + fields + " fields");
        }
        for (Method method : type.getDeclaredMethods()) {
            if (method.getParameterCount() > MOST_PARAMETERS) {
                fault(1, method + " has too many parameters");
            }
        }
    }

    public static void main(String[] args) throws IOException {
        String[] lines = Files.readString(PROGRAM).split("\n");
        checkWords(lines);
        List<Part> parts = partsOf(lines);
        findCalls(parts, lines);
        checkLengths(parts);
        checkDepth(parts);
        checkClasses();
        System.out.println(wrong == 0 ? "the language is as due" : wrong + " faults of the language");
        if (wrong != 0) {
            System.exit(1);
        }
    }
}
