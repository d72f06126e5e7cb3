import java.io.IOException;
import java.lang.reflect.Method;
import java.lang.reflect.Modifier;
import java.net.URL;
import java.net.URLClassLoader;
import java.nio.file.Files;
import java.nio.file.Path;
import java.util.ArrayList;
import java.util.List;
import java.util.Set;
import java.util.TreeSet;
import java.util.regex.Matcher;
import java.util.regex.Pattern;
import java.util.stream.Stream;
import javax.tools.ToolProvider;

/** What README.md shows as a use of the class: it compiles as it stands there, and answers what stands beside it. */
public final class ReadmeTest {
    private static final Pattern CALL = Pattern.compile("\\s*(x\\.(\\w+)\\(.*\\)); *// (-?\\d+|[A-Z]+|k)(:.*)?");
    private static final int MOST_CALLS = 512;

    private final Set<String> face = new TreeSet<>();
    private final Set<String> shown = new TreeSet<>();
    private final List<String> asItStands = new ArrayList<>();
    private final List<String> compared = new ArrayList<>();

    /** The page is README.md of the directory in which the test is run, or one that is named. */
    public static void main(String[] args) throws Exception {
        Check.name("README.md");
        new ReadmeTest().page(Path.of(args.length > 0 ? args[0] : "README.md"));
        Check.end();
    }

    private void page(Path page) throws Exception {
        for (Method m : WaterConsent.class.getDeclaredMethods()) {
            if (Modifier.isPublic(m.getModifiers())) {
                face.add(m.getName());
            }
        }
        String told = Files.readString(page);
        parts(told);
        Path build = Files.createTempDirectory("readme");
        try {
            Check.due("the use as it stands compiles", compile(build, "Use", "", asItStands), 0);
            String due = "static int calls, wrong;\n"
                + "static void due(String call, long got, long want) { calls++; if (got != want) { wrong++;\n"
                + "System.out.println(\"README.md: \" + call + \" answered \" + got + \", beside it stands \" + want); } }\n";
            Check.due("the use with its answers compiles", compile(build, "Compared", due, compared), 0);
            run(build);
        } finally {
            removed(build);
        }
        Check.same("calls that are shown", shown.toString(), face.toString());
        for (String constant : new String[] {"UNKNOWN", "OUTSIDE", "STATE", "FULL", "NONE", "LOST"}) {
            Check.due(constant + " is told", told.contains("`" + constant + "`") ? 1 : 0, 1);
        }
        Check.due("how to run the tests is told", told.contains("\n    .ci/run\n") ? 1 : 0, 1);
    }

    /** The lines between the signs of a part in Java. */
    private void parts(String told) {
        boolean inside = false;
        int number = 0;
        for (String line : told.split("\n", -1)) {
            number++;
            if (line.equals("```java") || line.equals("```")) {
                Check.due("line " + number + " begins or ends a part", line.equals("```") == inside ? 1 : 0, 1);
                inside = !inside;
            } else if (inside) {
                asItStands.add(line);
                compared.add(withAnswer(line, number));
            }
        }
        Check.due("a part in Java, one at least", asItStands.isEmpty() ? 0 : 1, 1);
        Check.due("the last part ends", inside ? 1 : 0, 0);
    }

    private String withAnswer(String line, int number) {
        Matcher m = CALL.matcher(line);
        if (!m.matches()) {
            Check.due("line " + number + " has a call without its answer", line.contains("x.") ? 1 : 0, 0);
            return line;
        }
        shown.add(m.group(2));
        String answer = m.group(3);
        String due = Character.isUpperCase(answer.charAt(0)) ? "WaterConsent." + answer : answer;
        return "due(\"line " + number + "\", " + m.group(1) + ", " + due + ");";
    }

    private static int compile(Path build, String name, String ahead, List<String> lines) throws IOException {
        Path file = build.resolve(name + ".java");
        Files.writeString(file, "public final class " + name + " {\n" + ahead
            + "public static void main(String[] args) {\n" + String.join("\n", lines) + "\n}\n}\n");
        return ToolProvider.getSystemJavaCompiler().run(null, System.out, System.out, "--release", "17",
            "-cp", System.getProperty("java.class.path"), "-d", build.toString(), file.toString());
    }

    private static void run(Path build) throws Exception {
        try (URLClassLoader loader = new URLClassLoader(new URL[] {build.toUri().toURL()})) {
            Class<?> use = loader.loadClass("Compared");
            use.getMethod("main", String[].class).invoke(null, (Object) new String[0]);
            Check.due("answers that are not as they stand beside a call", number(use, "wrong"), 0);
            int calls = number(use, "calls");
            Check.due("calls: " + calls + " of 512 at most", calls > 0 && calls <= MOST_CALLS ? 1 : 0, 1);
        }
    }

    private static int number(Class<?> use, String name) throws ReflectiveOperationException {
        java.lang.reflect.Field field = use.getDeclaredField(name);
        field.setAccessible(true);
        return field.getInt(null);
    }

    private static void removed(Path build) throws IOException {
        try (Stream<Path> files = Files.list(build)) {
            for (Path file : files.toList()) {
                Files.delete(file);
            }
        }
        Files.delete(build);
    }
}
