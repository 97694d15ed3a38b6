import java.io.IOException;
import java.nio.file.Files;
import java.nio.file.Path;
import java.util.ArrayList;
import java.util.List;
import java.util.TreeMap;
import java.util.function.IntToLongFunction;
import java.util.function.Supplier;
import java.util.function.ToLongFunction;
import java.util.regex.Matcher;
import java.util.regex.Pattern;

/**
 * What the tests by sentence share. Each test quotes the sentence that it is of; the quote must stand in its section
 * of the document, and at the end no word of refusal may stand in a promise that no test has quoted.
 */
final class Edge {
    static final int LOW = Integer.MIN_VALUE;
    static final int HIGH = Integer.MAX_VALUE;
    /** Numbers of their own, so that a wrong constant of the class shows. */
    static final int BAD = -1, FULL = -2, NONE = -3, STATE = -4;
    /** The number by which tests name the document's words ahead of Promise 1. */
    static final int TERMS = 0;

    private static final Path DOCUMENT = Path.of("../shared/DOC.md");
    private static final Pattern EDGE_WORDS = Pattern.compile(
            "\\b(BAD|FULL|NONE|STATE)\\b|-9|-1[0-9]|\\d+ to \\d+|above|below|more than|at most|missing|likewise");

    private static final TreeMap<Integer, String> SECTIONS = new TreeMap<>();
    private static final TreeMap<Integer, boolean[]> QUOTED = new TreeMap<>();
    private static String sentence = "";
    private static int sentences = 0;
    private static int asked = 0;
    private static int wrong = 0;

    private Edge() {
    }

    // ---------------------------------------------------------------- the document

    /** Without the document the tests run all the same, but their quotes can't be looked up. */
    static void openDocument() throws IOException {
        if (!Files.isReadable(DOCUMENT)) {
            System.out.println("EdgeTest: " + DOCUMENT + " is not there, so quotes are not looked up");
            return;
        }
        String text = Files.readString(DOCUMENT).replaceAll("\\s+", " ");
        Matcher heads = Pattern.compile("## Promise (\\d+): ").matcher(text);
        int begun = 0;
        int number = TERMS;
        while (heads.find()) {
            keepSection(number, text.substring(begun, heads.start()));
            number = Integer.parseInt(heads.group(1));
            begun = heads.end();
        }
        int end = text.indexOf("## Not promised");
        keepSection(number, text.substring(begun, end < 0 ? text.length() : end));
    }

    private static void keepSection(int number, String text) {
        SECTIONS.put(number, text);
        QUOTED.put(number, new boolean[text.length()]);
    }

    /** A test of one sentence; it must ask something, and nothing in it may throw. */
    static void sentence(int promise, String words, Runnable test) {
        sentence = (promise == TERMS ? "terms" : "promise " + promise) + ", '" + words + "'";
        sentences++;
        markQuoted(promise, words);
        int before = asked;
        try {
            test.run();
        } catch (RuntimeException e) {
            complain("threw " + e + " at " + e.getStackTrace()[0]);
        }
        if (asked == before) {
            complain("the test asked nothing");
        }
    }

    private static void markQuoted(int promise, String words) {
        if (SECTIONS.isEmpty()) {
            return;
        }
        String section = SECTIONS.getOrDefault(promise, "");
        int at = section.indexOf(words);
        if (at < 0) {
            complain("these words don't stand in the document");
            return;
        }
        for (int i = 0; i < words.length(); i++) {
            QUOTED.get(promise)[at + i] = true;
        }
    }

    private static void complain(String what) {
        wrong++;
        System.out.println(sentence + ": " + what);
    }

    /** Answers how many are wrong. */
    static int end() {
        sentence = "at the end";
        for (int promise : SECTIONS.keySet()) {
            if (promise != TERMS) {
                lookForUnquoted(promise);
            }
        }
        System.out.println("EdgeTest: " + sentences + " sentences, " + asked + " calls, " + wrong + " wrong");
        return wrong;
    }

    private static void lookForUnquoted(int promise) {
        Matcher words = EDGE_WORDS.matcher(SECTIONS.get(promise));
        while (words.find()) {
            if (!QUOTED.get(promise)[words.start()]) {
                complain("'" + words.group() + "' of promise " + promise + " is in no test's sentence");
            }
        }
    }

    // ---------------------------------------------------------------- what is due

    static void due(String what, long got, long want) {
        asked++;
        if (got != want) {
            complain(what + " answered " + got + ", due is " + want);
        }
    }

    /** The same answer is due for each of these numbers. */
    static void each(String what, long want, IntToLongFunction call, int... numbers) {
        for (int number : numbers) {
            due(what.replace("#", Integer.toString(number)), call.applyAsLong(number), want);
        }
    }

    /** The answers of a call to the numbers 0, 1, .. */
    static void row(String what, IntToLongFunction call, long... want) {
        for (int i = 0; i < want.length; i++) {
            due(what.replace("#", Integer.toString(i)), call.applyAsLong(i), want[i]);
        }
    }

    // ---------------------------------------------------------------- objects

    static HushTables of(int people) {
        HushTables x = new HushTables();
        x.people(people);
        return x;
    }

    static HushTables of(String text) {
        HushTables x = new HushTables();
        int ties = read(x, text);
        if (ties < 0) {
            complain("'" + text + "' is no text: " + ties);
        }
        return x;
    }

    static void tape(HushTables x, String text) {
        for (int at = 0; at < text.length(); at += 8) {
            int n = Math.min(8, text.length() - at);
            long eight = 0;
            for (int i = n - 1; i >= 0; i--) {
                eight = eight << 8 | text.charAt(at + i) & 255;
            }
            x.feed(eight, n);
        }
    }

    static int read(HushTables x, String text) {
        tape(x, text);
        return x.works();
    }

    static void fault(String text, int place) {
        due("works() of '" + text + "'", read(new HushTables(), text), -100 - place);
    }

    /** TIES of one PERSON, 0, to so many others, each with these ODDS. */
    static HushTables star(int people, int odds) {
        HushTables x = of(people);
        for (int p = 1; p < people; p++) {
            x.tie(0, p, 1, odds, false);
        }
        return x;
    }

    /** TIES of each PERSON to the next one. */
    static HushTables chain(int people) {
        HushTables x = of(people);
        for (int p = 1; p < people; p++) {
            x.tie(p - 1, p, 1, 4, false);
        }
        return x;
    }

    /** The first so many pairs of ten PEOPLE as TIES. */
    static HushTables withTies(int count) {
        HushTables x = of(10);
        int made = 0;
        for (int a = 0; a < 10; a++) {
            for (int b = a + 1; b < 10 && made < count; b++) {
                x.tie(a, b, 1, 4, false);
                made++;
            }
        }
        return x;
    }

    static HushTables withCuts(int count) {
        HushTables x = of("people 3;tie 0 1;");
        for (int i = 0; i < count; i++) {
            x.cut(6, 0, 0);
        }
        return x;
    }

    static void noWeights(HushTables x) {
        for (int p = 0; p < x.many(0); p++) {
            x.first(p, 0);
        }
    }

    // ---------------------------------------------------------------- twins

    /** The call is refused, and the object answers behind it as its twin that was not asked. */
    static void refused(String what, long want, Supplier<HushTables> made, ToLongFunction<HushTables> call) {
        HushTables x = made.get();
        HushTables twin = made.get();
        due(what, call.applyAsLong(x), want);
        alike(what, x, twin);
    }

    static void alike(String what, HushTables x, HushTables twin) {
        List<String> names = new ArrayList<>();
        List<Long> got = new ArrayList<>();
        List<Long> want = new ArrayList<>();
        observe(x, names, got);
        observe(twin, new ArrayList<>(), want);
        asked++;
        for (int i = 0; i < Math.min(got.size(), want.size()); i++) {
            if (!got.get(i).equals(want.get(i))) {
                complain("behind " + what + ": " + names.get(i) + " answered " + got.get(i) + ", that of the twin is "
                        + want.get(i));
                return;
            }
        }
        if (got.size() != want.size()) {
            complain("behind " + what + " there is more or less to see than in the twin");
        }
    }

    /** All that can be seen of an object, in some 450 calls at most; it is another one then. */
    private static void observe(HushTables x, List<String> names, List<Long> answers) {
        observeWorks(x, names, answers);
        for (int i = 0; i < x.many(4); i++) {
            for (int what = 0; what < 3; what++) {
                note(names, answers, "row(" + i + ", " + what + ")", x.row(i, what));
            }
        }
        for (int i = 0; i < x.many(6); i++) {
            note(names, answers, "trace(" + i + ")", x.trace(i));
        }
        for (int i = 0; i < 4; i++) {
            for (int sort = 0; sort < 4; sort++) {
                note(names, answers, "item(" + i + ", " + sort + ", 1)", x.item(i, sort, 1));
            }
            for (int as = 0; as < 14; as++) {
                note(names, answers, "taken(" + i + ", " + as + ")", x.taken(i, as));
            }
        }
        note(names, answers, "back()", x.back());
        observeWorks(x, names, answers);
        note(names, answers, "works()", x.works());
        note(names, answers, "many(0)", x.many(0));
        note(names, answers, "many(1)", x.many(1));
    }

    private static void observeWorks(HushTables x, List<String> names, List<Long> answers) {
        for (int what = 0; what < 8; what++) {
            note(names, answers, "many(" + what + ")", x.many(what));
        }
        for (int tie = 0; tie < x.many(1); tie++) {
            for (int what = 0; what < 5; what++) {
                note(names, answers, "tieOf(" + tie + ", " + what + ")", x.tieOf(tie, what));
            }
        }
        for (int cut = 0; cut < x.many(2); cut++) {
            for (int what = 0; what < 3; what++) {
                note(names, answers, "cutOf(" + cut + ", " + what + ")", x.cutOf(cut, what));
            }
        }
        for (int p = 0; p < x.many(0); p++) {
            note(names, answers, "first(" + p + ", 1)", x.first(p, 1));
            note(names, answers, "seen(" + p + ", -1)", x.seen(p, -1));
        }
        note(names, answers, "seed(1)", x.seed(1));
    }

    private static void note(List<String> names, List<Long> answers, String name, long answer) {
        names.add(name);
        answers.add(answer);
    }
}
