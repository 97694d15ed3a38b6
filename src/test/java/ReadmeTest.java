import java.io.IOException;
import java.lang.reflect.Method;
import java.lang.reflect.Modifier;
import java.net.URL;
import java.net.URLClassLoader;
import java.nio.file.Files;
import java.nio.file.Path;
import java.util.regex.Matcher;
import java.util.regex.Pattern;
import javax.tools.ToolProvider;

/** Compiles the Java of README.md and asks its calls, so that the page shows nothing that isn't so. */
public final class ReadmeTest {
    private static final Pattern BLOCK = Pattern.compile("(?s)```java\n(.*?)```");
    private static final Pattern ASKED = Pattern.compile("(?m)^((?:x\\.\\w+|tellWorks)\\(.*\\));\\s*// (-?\\d+).*$");
    private static final Pattern CALL = Pattern.compile("(?m)^(?:x\\.|tellWorks).*$");
    private static final Path FOLDER = Path.of("build/readme");

    public static void main(String[] args) throws Exception {
        String page = Files.readString(Path.of("README.md"));
        int wrong = notShown(page);
        StringBuilder members = new StringBuilder();
        StringBuilder body = new StringBuilder();
        int calls = 0;
        Matcher blocks = BLOCK.matcher(page);
        while (blocks.find()) {
            String block = blocks.group(1);
            if (block.startsWith("static ")) {
                members.append(block);
                continue;
            }
            calls += count(ASKED, block);
            if (count(ASKED, block) != count(CALL, block)) {
                System.out.println("a call without an answer in\n" + block);
                wrong++;
            }
            body.append("{\n").append(askedOnly(block)).append("}\n");
        }
        wrong += answersOf(program(members, body));
        System.out.println("ReadmeTest: " + calls + " calls, " + wrong + " wrong");
        if (wrong != 0 || calls == 0) {
            System.exit(1);
        }
    }

    private static int notShown(String page) {
        int wrong = 0;
        for (Method m : HushTables.class.getDeclaredMethods()) {
            if (Modifier.isPublic(m.getModifiers()) && !page.contains("x." + m.getName() + "(")) {
                System.out.println("README.md does not show " + m.getName());
                wrong++;
            }
        }
        return wrong;
    }

    private static int count(Pattern pattern, String text) {
        return (int) pattern.matcher(text).results().count();
    }

    private static String askedOnly(String block) {
        return ASKED.matcher(block).replaceAll(m -> {
            String words = m.group(1).replace("\"", "'");
            return Matcher.quoteReplacement("due(\"" + words + "\", " + m.group(1) + ", " + m.group(2) + "L);");
        });
    }

    private static String program(CharSequence members, CharSequence body) {
        return "public final class Readme {\n    public static int wrong = 0;\n"
                + "static void due(String call, long got, long want) {\n    if (got != want) {\n        wrong++;\n"
                + "System.out.println(\"README: \" + call + \" answered \" + got + \", not \" + want);\n}\n}\n"
                + members + "public static void main(String[] args) {\n" + body + "}\n}\n";
    }

    private static int answersOf(String program) throws IOException, ReflectiveOperationException {
        Files.createDirectories(FOLDER);
        Path file = FOLDER.resolve("Readme.java");
        Files.writeString(file, program);
        String classes = Path.of(HushTables.class.getProtectionDomain().getCodeSource().getLocation().getPath())
                .toString();
        int refused = ToolProvider.getSystemJavaCompiler().run(null, null, null, "-cp", classes, "-d",
                FOLDER.toString(), file.toString());
        if (refused != 0) {
            System.out.println("the Java of README.md does not compile");
            return 1;
        }
        URL[] folder = {FOLDER.toUri().toURL()};
        try (URLClassLoader loader = new URLClassLoader(folder, HushTables.class.getClassLoader())) {
            Class<?> readme = loader.loadClass("Readme");
            readme.getMethod("main", String[].class).invoke(null, (Object) new String[0]);
            return readme.getField("wrong").getInt(null);
        }
    }
}
