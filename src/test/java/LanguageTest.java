import java.io.PrintWriter;
import java.io.StringWriter;
import java.util.ArrayList;
import java.util.HashMap;
import java.util.HashSet;
import java.util.List;
import java.util.Map;
import java.util.Optional;
import java.util.Set;
import java.util.regex.Matcher;
import java.util.regex.Pattern;
import java.util.spi.ToolProvider;

/** Rules of LANGUAGE.md that can be read from the compiled class: depth of calls, library, objects, exceptions. */
public final class LanguageTest {
    private static final int DEEPEST = 8;
    private static final int MOST_FIELDS = 20;
    private static final Pattern CLASS = Pattern.compile("^\\S.*\\bclass (\\S+).*\\{$");
    private static final Pattern METHOD = Pattern.compile("^  (?! )(.*?)([\\w$.]+)\\((.*)\\).*;$");
    private static final Pattern STATIC_BLOCK = Pattern.compile("^  static \\{\\};$");
    private static final Pattern CALL = Pattern.compile("\\binvoke\\w+\\s.*// (?:Interface)?Method ([^:]+):");
    private static final Pattern MADE = Pattern.compile("^\\s+\\d+: (new|newarray|anewarray|multianewarray)\\s+(.*)$");
    private static final Set<String> THROWN = Set.of("java/util/NoSuchElementException", "java/lang/IllegalArgumentException");

    private final Kit kit = new Kit("LanguageTest");
    private final Map<String, Set<String>> calls = new HashMap<>();
    private final Set<String> face = new HashSet<>();

    public static void main(String[] args) throws ClassNotFoundException {
        new LanguageTest().go();
    }

    private void go() throws ClassNotFoundException {
        List<String> names = new ArrayList<>(List.of("UprightTurned"));
        for (Class<?> inner : UprightTurned.class.getDeclaredClasses()) {
            names.add(inner.getName());
        }
        for (String name : names) {
            long fields = List.of(Class.forName(name).getDeclaredFields()).stream()
                    .filter(field -> !java.lang.reflect.Modifier.isStatic(field.getModifiers())).count();
            kit.due("fields of " + name + ": " + fields, true, fields <= MOST_FIELDS);
        }
        Optional<ToolProvider> javap = ToolProvider.findFirst("javap");
        if (javap.isPresent()) {
            for (String name : names) {
                read(disassembled(javap.get(), name));
            }
            kit.due("methods were read", true, calls.size() > 100);
            for (String method : face) {
                int depth = depth(method, 0);
                kit.due("calls from " + method + " go deep: " + depth, true, depth <= DEEPEST);
            }
        }
        kit.close();
    }

    private static String[] disassembled(ToolProvider javap, String name) {
        StringWriter text = new StringWriter();
        PrintWriter out = new PrintWriter(text);
        javap.run(out, out, "-p", "-c", "-cp", System.getProperty("java.class.path"), name);
        return text.toString().split("\\R");
    }

    private void read(String[] rows) {
        String owner = "";
        String method = "";
        for (String row : rows) {
            Matcher type = CLASS.matcher(row);
            Matcher head = METHOD.matcher(row);
            if (type.matches()) {
                owner = type.group(1);
            } else if (STATIC_BLOCK.matcher(row).matches()) {
                method = owner + ".<clinit>";
            } else if (head.matches()) {
                boolean isConstructor = head.group(2).equals(owner);
                method = owner + "." + (isConstructor ? "<init>" : head.group(2));
                calls.putIfAbsent(method, new HashSet<>());
                if (owner.equals("UprightTurned") && head.group(1).contains("public ")) {
                    face.add(method);
                }
            } else {
                readStep(owner, method, row);
            }
        }
    }

    private void readStep(String owner, String method, String row) {
        kit.due("no catch in " + method, false, row.contains("Exception table"));
        kit.due("no lambda, no joining by + in " + method, false, row.contains("invokedynamic"));
        Matcher made = MADE.matcher(row);
        if (made.find()) {
            boolean isFirst = method.endsWith(".<init>") || method.endsWith(".<clinit>");
            boolean isThrown = THROWN.stream().anyMatch(made.group(2)::contains);
            kit.due("nothing is made by a call: " + method + row, true, isFirst || isThrown);
        }
        Matcher call = CALL.matcher(row);
        if (call.find()) {
            String target = call.group(1).replace("\"", "");
            String full = target.contains(".") ? target : owner + "." + target;
            boolean own = full.startsWith("UprightTurned");
            boolean library = full.startsWith("java/lang/Math.m") || full.equals("java/lang/Object.<init>")
                    || THROWN.contains(full.replace(".<init>", ""));
            kit.due("of the library only what stands there: " + full, true, own || library);
            if (own && !method.endsWith(".<clinit>")) {
                calls.get(method).add(full);
            }
        }
    }

    private int depth(String method, int above) {
        if (above > DEEPEST) {
            return 1;
        }
        int deepest = 0;
        for (String called : calls.getOrDefault(method, Set.of())) {
            deepest = Math.max(deepest, depth(called, above + 1));
        }
        return deepest + 1;
    }
}
