import java.io.IOException;
import java.lang.reflect.Method;
import java.nio.file.Files;
import java.nio.file.Path;
import java.util.ArrayList;
import java.util.HashSet;
import java.util.List;
import java.util.Set;
import java.util.regex.Matcher;
import java.util.regex.Pattern;

/** Rules of LANGUAGE.md that only the source tells, as the compiler leaves no trace of them. */
public final class SourceTest {
    private static final int MOST_LINES = 60;
    private static final int MOST_PARAMETERS = 7;
    private static final int MOST_CLASSES = 12;
    private static final Pattern LIBRARY = Pattern.compile("\\b(Integer|Long|Math|System|Arrays|String|List)\\.(\\w+)(\\(?)");
    private static final Set<String> FUNCTIONS = Set.of("max", "min", "abs", "compare", "bitCount", "floorDiv", "floorMod");
    private static final Pattern WORDS = Pattern.compile(
            "\\b(synchronized|assert|finally|try|catch|strictfp|native|volatile|transient|var|yield|record)\\b|->|::");
    private static final Pattern METHOD = Pattern.compile("^( +)(.*?)(\\w+)\\((.*)\\)(?: throws [\\w, ]+)? \\{$");
    private static final Pattern STATEMENT = Pattern.compile("^ +(\\} )?(if|else|for|while|do|switch|return)\\b.*");
    private static final Pattern STATIC = Pattern.compile("^ +(?:private |public )?static (?!.*\\) (?:throws .*)?\\{$)(.*)$");
    private static final Pattern CONSTANT = Pattern.compile(
            "final (int|long|boolean|char|String|int\\[\\]|long\\[\\]) [A-Z_]+ = (-?[\\w']+|\\{[-\\d, ]+\\});");

    private final Kit kit = new Kit("SourceTest");

    public static void main(String[] args) throws IOException {
        new SourceTest().go(Files.readAllLines(Path.of(System.getProperty("main"))));
    }

    private void go(List<String> rows) {
        int classes = 0;
        for (String row : rows) {
            kit.due("signs 1 to 127 in " + row, true, row.chars().allMatch(code -> code > 0 && code < 128));
            String code = withoutComment(row);
            classes += code.matches(".*\\b(class|interface|enum) \\w+ \\{") ? 1 : 0;
            kit.due("rules 2, 6: no such word in " + row, false, WORDS.matcher(code).find());
            readLibrary(code);
            readStatic(code);
            if (code.startsWith("import ")) {
                kit.due("rule 4: " + row, "import java.util.NoSuchElementException;".equals(code), true);
            }
        }
        kit.due("rule 11: classes: " + classes, true, classes > 1 && classes <= MOST_CLASSES);
        readMethods(rows);
        kit.close();
    }

    private static String withoutComment(String row) {
        String bare = row.strip();
        boolean isComment = bare.startsWith("//") || bare.startsWith("/*") || bare.startsWith("*");
        return isComment ? "" : row.replaceAll("//.*$", "").stripTrailing();
    }

    /** Of the library functions alone are let in, so its constants (MAX_VALUE) are told by their numbers. */
    private void readLibrary(String code) {
        Matcher name = LIBRARY.matcher(code);
        while (name.find()) {
            boolean stands = name.group(3).equals("(") && FUNCTIONS.contains(name.group(2));
            kit.due("rule 4: " + name.group(), true, stands);
        }
    }

    private void readStatic(String code) {
        Matcher field = STATIC.matcher(code);
        if (field.matches() && !field.group(1).contains("class ")) {
            kit.due("rule 5: " + code, true, CONSTANT.matcher(field.group(1)).matches());
        }
    }

    private void readMethods(List<String> rows) {
        Set<String> face = new HashSet<>();
        for (Method method : UprightTurned.class.getDeclaredMethods()) {
            if (java.lang.reflect.Modifier.isPublic(method.getModifiers())) {
                face.add(method.getName());
            }
        }
        List<String> names = new ArrayList<>();
        for (int i = 0; i < rows.size(); i++) {
            Matcher head = METHOD.matcher(rows.get(i));
            if (!head.matches() || STATEMENT.matcher(rows.get(i)).matches()) {
                continue;
            }
            String name = head.group(3);
            names.add(name);
            int end = i + rows.subList(i, rows.size()).indexOf(head.group(1) + "}");
            kit.due("rule 11: lines of " + name, true, end > i && end - i < MOST_LINES);
            int parameters = head.group(4).isEmpty() ? 0 : head.group(4).split(",").length;
            kit.due("rule 11: parameters of " + name, true, parameters <= MOST_PARAMETERS);
            boolean isPrivate = head.group(2).startsWith("private ");
            kit.due("rule 1: private " + name, false, isPrivate && face.contains(name));
        }
        kit.due("methods were read", true, names.size() > 100 && names.containsAll(face));
    }
}
