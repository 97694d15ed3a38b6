import java.io.IOException;
import java.lang.management.ManagementFactory;
import java.lang.reflect.Constructor;
import java.lang.reflect.Field;
import java.lang.reflect.Method;
import java.lang.reflect.Modifier;
import java.nio.file.Files;
import java.nio.file.Path;
import java.util.ArrayList;
import java.util.Arrays;
import java.util.List;
import java.util.Set;
import java.util.TreeSet;
import java.util.regex.Matcher;
import java.util.regex.Pattern;

/** The document's face and those rules of LANGUAGE.md that can be looked up; run from the project's folder. */
public final class LanguageTest {
    private static final String FACE = "act(int,int,int)int alterRow(int,int,int)int back()int best(int,int)int "
            + "between(int,int,int)int chair(int)int chance(int,int)int could(int,int)int cut(int,int,int)int "
            + "cutOf(int,int)int early(int,int)int feed(long,int)int fewest(int,int,int)int first(int,int)int "
            + "guards(int,int)int item(int,int,int)int joined(int)int judge(int,int)int keep()int many(int)int "
            + "meet(int,int)int open(int,int)int people(int)int prove(int,int)int put(int,int,int)int "
            + "reach(int)long row(int,int)int run(int,int)int seed(int)int seen(int,int)int sets(int)int "
            + "sheet(int,int,int)int shelf(int,int,int)int sit(int,int)int small(int,int)int taken(int,int)int "
            + "tell(int,int)int tie(int,int,int,int,boolean)int tieOf(int,int)int trace(int)int uncut()int "
            + "who(int,int)int works()int";
    private static int wrong = 0;

    private static void check(boolean right, String what) {
        if (!right) {
            wrong++;
            System.out.println(what);
        }
    }

    public static void main(String[] args) throws IOException {
        face();
        classes();
        String source = Files.readString(Path.of("src/main/java/HushTables.java"));
        words(withoutTextsAndComments(source));
        lengths(source);
        makesNothing();
        System.out.println("LanguageTest: " + wrong + " wrong");
        if (wrong != 0) {
            System.exit(1);
        }
    }

    private static void face() {
        Class<?> c = HushTables.class;
        check(Modifier.isPublic(c.getModifiers()) && Modifier.isFinal(c.getModifiers()), "the class is public, final");
        Set<String> got = new TreeSet<>();
        Set<String> publicNames = new TreeSet<>();
        for (Method m : c.getDeclaredMethods()) {
            if (!Modifier.isPrivate(m.getModifiers())) {
                List<String> types = new ArrayList<>();
                for (Class<?> type : m.getParameterTypes()) {
                    types.add(type.getName());
                }
                got.add(m.getName() + "(" + String.join(",", types) + ")" + m.getReturnType().getName());
                publicNames.add(m.getName());
                check(Modifier.isPublic(m.getModifiers()), m + " is neither public nor private");
            }
        }
        Set<String> want = new TreeSet<>(Arrays.asList(FACE.split(" ")));
        check(got.equals(want), "the methods are " + got);
        for (Class<?> inside : everyClass()) {
            for (Method m : inside.getDeclaredMethods()) {
                boolean own = inside == c && Modifier.isPublic(m.getModifiers());
                check(own || !publicNames.contains(m.getName()), m + " bears the name of a public method");
            }
        }
        Set<String> constants = new TreeSet<>();
        for (Field f : c.getDeclaredFields()) {
            if (!Modifier.isPrivate(f.getModifiers())) {
                constants.add(f.getName());
            }
        }
        check(constants.equals(Set.of("BAD", "FULL", "NONE", "STATE")), "the constants are " + constants);
        Constructor<?>[] made = c.getDeclaredConstructors();
        check(made.length == 1 && Modifier.isPublic(made[0].getModifiers()) && made[0].getParameterCount() == 0,
                "one public constructor");
    }

    private static List<Class<?>> everyClass() {
        List<Class<?>> all = new ArrayList<>(List.of(HushTables.class));
        all.addAll(Arrays.asList(HushTables.class.getDeclaredClasses()));
        return all;
    }

    private static void classes() {
        check(everyClass().size() <= 12, "too many classes");
        for (Class<?> c : everyClass()) {
            int fields = 0;
            for (Field f : c.getDeclaredFields()) {
                boolean isStatic = Modifier.isStatic(f.getModifiers());
                check(!isStatic || Modifier.isFinal(f.getModifiers()), f + " is static, not final");
                fields += isStatic ? 0 : 1;
            }
            check(fields <= 20, c + " has too many fields");
            check(c == HushTables.class || Modifier.isStatic(c.getModifiers()), c + " is not static");
            check(c == HushTables.class || !Modifier.isPublic(c.getModifiers())
                    && !Modifier.isProtected(c.getModifiers()), c + " is seen outside");
            for (Method m : c.getDeclaredMethods()) {
                check(m.getParameterCount() <= 7, m + " has too many parameters");
            }
        }
    }

    private static String withoutTextsAndComments(String source) {
        return source.replaceAll("(?s)/\\*.*?\\*/", " ").replaceAll("//[^\n]*", " ")
                .replaceAll("\"[^\"\n]*\"", "\"\"");
    }

    private static void words(String code) {
        for (String word : new String[] {"throw", "throws", "try", "catch", "finally", "synchronized", "assert",
            "package", "native", "volatile", "transient", "strictfp", "yield", "var"}) {
            check(!Pattern.compile("\\b" + word + "\\b").matcher(code).find(), "the word " + word);
        }
        for (String sign : new String[] {"->", "::", "@", "+ \"\"", "\"\" +"}) {
            check(!code.contains(sign), "the sign " + sign);
        }
        Matcher imports = Pattern.compile("import ([^;]*);").matcher(code);
        while (imports.find()) {
            check(imports.group(1).matches("java\\.util\\.(Arrays|ArrayList|List|Iterator)"), imports.group());
        }
        Matcher library = Pattern.compile("\\b(System|Arrays|Integer|Long|Math|String|StringBuilder)\\.(\\w+)")
                .matcher(code);
        Set<String> fine = Set.of("System.arraycopy", "Arrays.fill", "Arrays.copyOf", "Arrays.copyOfRange",
                "Integer.bitCount", "Integer.compare", "Math.min", "Math.max", "Math.abs", "Math.floorMod",
                "Math.floorDiv");
        while (library.find()) {
            check(fine.contains(library.group()), "the library's " + library.group());
        }
    }

    private static void lengths(String source) {
        String[] lines = source.split("\n");
        int begun = -1;
        String indent = "";
        for (int i = 0; i < lines.length; i++) {
            Matcher head = Pattern.compile("^( {4}| {8})(?!return|static final class|private static final class)"
                    + "[\\w\\[\\] ]+\\([^)]*\\) \\{$").matcher(lines[i]);
            if (head.find()) {
                begun = i;
                indent = head.group(1);
            }
            if (begun >= 0 && lines[i].equals(indent + "}")) {
                check(i - begun < 60, "the method at line " + (begun + 1) + " is long");
                begun = -1;
            }
        }
    }

    /** The dearest calls, 512 times: a run's room must not fill. */
    private static void makesNothing() {
        HushTables x = new HushTables();
        x.people(7);
        for (int i = 0; i < 9; i++) {
            x.tie(i % 7, (i * 2 + 1) % 7, i, 1 + i % 3, false);
        }
        x.sheet(0, 2, 40);
        x.cut(5, 0, 0);
        x.shelf(0, 0, 0);
        com.sun.management.ThreadMXBean bean = (com.sun.management.ThreadMXBean) ManagementFactory.getThreadMXBean();
        callAll(x, 20);
        long id = Thread.currentThread().getId();
        long before = bean.getThreadAllocatedBytes(id);
        callAll(x, 512);
        long made = bean.getThreadAllocatedBytes(id) - before;
        check(made < 100_000, "512 times all calls made " + made + " bytes");
    }

    private static void callAll(HushTables x, int times) {
        for (int i = 0; i < times; i++) {
            x.feed(0x3b37656c706f6570L, 8);
            x.keep();
            x.works();
            x.back();
            x.chance(0, 0);
            x.reach(0);
            x.who(0, 0);
            x.fewest(0, 1, 0);
            x.between(0, 5, 1);
            x.small(3, 0);
            x.sit(3, 0);
            x.early(0, 1);
            x.could(0, 50);
            x.run(0, 20);
            x.guards(0, 0);
            x.prove(0, 1);
            x.judge(0, 1);
            x.chair(0);
            x.meet(5, 1);
            x.tell(3, 1);
            x.best(0, 0);
            x.act(0, 3, i);
        }
    }
}
