import java.util.ArrayList;
import java.util.Arrays;
import java.util.HashSet;
import java.util.List;
import java.util.Random;
import java.util.Set;
import java.util.TreeSet;
import java.util.regex.Matcher;
import java.util.regex.Pattern;

/** Random runs of calls, answered by HushTables and by a slow second program that follows the document's words. */
public final class OracleTest {
    private static final int RUNS = 600;
    private static final int CALLS = 512;
    private static final String[] NAMES = {
        "feed", "works", "people", "tie", "tieOf", "first", "cut", "cutOf", "uncut", "open", "joined", "sets",
        "chance", "reach", "seen", "who", "fewest", "between", "small", "sit", "early", "could", "seed", "run",
        "guards", "prove", "row", "alterRow", "judge", "chair", "meet", "tell", "best", "sheet", "put", "item",
        "shelf", "taken", "act", "trace", "many", "keep", "back"};

    public static void main(String[] args) {
        int wrong = 0;
        int[] asked = new int[NAMES.length];
        int[] refused = new int[NAMES.length];
        int from = args.length > 0 ? Integer.parseInt(args[0]) : 0;
        int runs = args.length > 1 ? Integer.parseInt(args[1]) : RUNS;
        for (int run = from; run < from + runs && wrong < 20; run++) {
            wrong += oneRun(run, asked, refused);
        }
        for (int i = 0; i < NAMES.length; i++) {
            if (asked[i] == 0 || asked[i] == refused[i]) {
                System.out.println("no run asked " + NAMES[i] + " so that it was answered");
                wrong++;
            }
        }
        System.out.println("OracleTest: " + runs + " runs, " + wrong + " wrong");
        if (wrong != 0) {
            System.exit(1);
        }
    }

    private static int oneRun(int run, int[] asked, int[] refused) {
        Random random = new Random(run * 7919L + 13);
        Caller caller = new Caller(random, run % 3);
        HushTables real = new HushTables();
        Oracle oracle = new Oracle();
        List<String> log = new ArrayList<>();
        for (int i = 0; i < CALLS; i++) {
            Object[] call = caller.next(oracle);
            long want = answer(oracle, call);
            long got;
            try {
                got = answer(real, call);
            } catch (RuntimeException e) {
                System.out.println("run " + run + ": " + Arrays.toString(call) + " threw " + e);
                return 1;
            }
            log.add(Arrays.toString(call) + " -> " + want);
            int name = Arrays.asList(NAMES).indexOf((String) call[0]);
            asked[name]++;
            if (want < 0) {
                refused[name]++;
            }
            if (got != want) {
                System.out.println("run " + run + ", call " + i + ": " + Arrays.toString(call) + " answered " + got
                        + ", the oracle says " + want);
                for (String line : log.subList(Math.max(0, log.size() - 60), log.size())) {
                    System.out.println("    " + line);
                }
                return 1;
            }
        }
        return 0;
    }

    private static int in(Object[] call, int i) {
        return (Integer) call[i];
    }

    private static long answer(HushTables t, Object[] c) {
        switch ((String) c[0]) {
            case "feed": return t.feed((Long) c[1], in(c, 2));
            case "works": return t.works();
            case "people": return t.people(in(c, 1));
            case "tie": return t.tie(in(c, 1), in(c, 2), in(c, 3), in(c, 4), in(c, 5) != 0);
            case "tieOf": return t.tieOf(in(c, 1), in(c, 2));
            case "first": return t.first(in(c, 1), in(c, 2));
            case "cut": return t.cut(in(c, 1), in(c, 2), in(c, 3));
            case "cutOf": return t.cutOf(in(c, 1), in(c, 2));
            case "uncut": return t.uncut();
            case "open": return t.open(in(c, 1), in(c, 2));
            case "joined": return t.joined(in(c, 1));
            case "sets": return t.sets(in(c, 1));
            case "chance": return t.chance(in(c, 1), in(c, 2));
            case "reach": return t.reach(in(c, 1));
            case "seen": return t.seen(in(c, 1), in(c, 2));
            case "who": return t.who(in(c, 1), in(c, 2));
            case "fewest": return t.fewest(in(c, 1), in(c, 2), in(c, 3));
            case "between": return t.between(in(c, 1), in(c, 2), in(c, 3));
            case "small": return t.small(in(c, 1), in(c, 2));
            case "sit": return t.sit(in(c, 1), in(c, 2));
            case "early": return t.early(in(c, 1), in(c, 2));
            case "could": return t.could(in(c, 1), in(c, 2));
            case "seed": return t.seed(in(c, 1));
            case "run": return t.run(in(c, 1), in(c, 2));
            case "guards": return t.guards(in(c, 1), in(c, 2));
            case "prove": return t.prove(in(c, 1), in(c, 2));
            case "row": return t.row(in(c, 1), in(c, 2));
            case "alterRow": return t.alterRow(in(c, 1), in(c, 2), in(c, 3));
            case "judge": return t.judge(in(c, 1), in(c, 2));
            case "chair": return t.chair(in(c, 1));
            case "meet": return t.meet(in(c, 1), in(c, 2));
            case "tell": return t.tell(in(c, 1), in(c, 2));
            case "best": return t.best(in(c, 1), in(c, 2));
            case "sheet": return t.sheet(in(c, 1), in(c, 2), in(c, 3));
            case "put": return t.put(in(c, 1), in(c, 2), in(c, 3));
            case "item": return t.item(in(c, 1), in(c, 2), in(c, 3));
            case "shelf": return t.shelf(in(c, 1), in(c, 2), in(c, 3));
            case "taken": return t.taken(in(c, 1), in(c, 2));
            case "act": return t.act(in(c, 1), in(c, 2), in(c, 3));
            case "trace": return t.trace(in(c, 1));
            case "many": return t.many(in(c, 1));
            case "keep": return t.keep();
            default: return t.back();
        }
    }

    private static long answer(Oracle t, Object[] c) {
        switch ((String) c[0]) {
            case "feed": return t.feed((Long) c[1], in(c, 2));
            case "works": return t.works();
            case "people": return t.people(in(c, 1));
            case "tie": return t.tie(in(c, 1), in(c, 2), in(c, 3), in(c, 4), in(c, 5) != 0);
            case "tieOf": return t.tieOf(in(c, 1), in(c, 2));
            case "first": return t.first(in(c, 1), in(c, 2));
            case "cut": return t.cut(in(c, 1), in(c, 2), in(c, 3));
            case "cutOf": return t.cutOf(in(c, 1), in(c, 2));
            case "uncut": return t.uncut();
            case "open": return t.open(in(c, 1), in(c, 2));
            case "joined": return t.joined(in(c, 1));
            case "sets": return t.sets(in(c, 1));
            case "chance": return t.chance(in(c, 1), in(c, 2));
            case "reach": return t.reach(in(c, 1));
            case "seen": return t.seen(in(c, 1), in(c, 2));
            case "who": return t.who(in(c, 1), in(c, 2));
            case "fewest": return t.fewest(in(c, 1), in(c, 2), in(c, 3));
            case "between": return t.between(in(c, 1), in(c, 2), in(c, 3));
            case "small": return t.small(in(c, 1), in(c, 2));
            case "sit": return t.sit(in(c, 1), in(c, 2));
            case "early": return t.early(in(c, 1), in(c, 2));
            case "could": return t.could(in(c, 1), in(c, 2));
            case "seed": return t.seed(in(c, 1));
            case "run": return t.run(in(c, 1), in(c, 2));
            case "guards": return t.guards(in(c, 1), in(c, 2));
            case "prove": return t.prove(in(c, 1), in(c, 2));
            case "row": return t.row(in(c, 1), in(c, 2));
            case "alterRow": return t.alterRow(in(c, 1), in(c, 2), in(c, 3));
            case "judge": return t.judge(in(c, 1), in(c, 2));
            case "chair": return t.chair(in(c, 1));
            case "meet": return t.meet(in(c, 1), in(c, 2));
            case "tell": return t.tell(in(c, 1), in(c, 2));
            case "best": return t.best(in(c, 1), in(c, 2));
            case "sheet": return t.sheet(in(c, 1), in(c, 2), in(c, 3));
            case "put": return t.put(in(c, 1), in(c, 2), in(c, 3));
            case "item": return t.item(in(c, 1), in(c, 2), in(c, 3));
            case "shelf": return t.shelf(in(c, 1), in(c, 2), in(c, 3));
            case "taken": return t.taken(in(c, 1), in(c, 2));
            case "act": return t.act(in(c, 1), in(c, 2), in(c, 3));
            case "trace": return t.trace(in(c, 1));
            case "many": return t.many(in(c, 1));
            case "keep": return t.keep();
            default: return t.back();
        }
    }

    /** Chooses calls that are mostly sensible, and now and then wild. */
    private static final class Caller {
        private static final int[] WILD = {-1, -2, Integer.MIN_VALUE, Integer.MAX_VALUE, 10, 11, 14, 40, 41, 99, 100,
            101, 1023, 1024, 2, 3, 7, 8, 9, 20, 21, 31, 32};
        /** Of 1000 calls so many begin a TEXT, by style. */
        private static final int[] TEXTS = {1, 10, 60};
        private final Random random;
        private final int style;
        private final List<Object[]> queue = new ArrayList<>();

        Caller(Random random, int style) {
            this.random = random;
            this.style = style;
        }

        Object[] next(Oracle o) {
            if (!queue.isEmpty()) {
                return queue.remove(0);
            }
            int dice = random.nextInt(1000);
            if (dice < TEXTS[style]) {
                queueText(o.tape.length() > 0);
                return queue.remove(0);
            }
            if (dice < TEXTS[style] + 8 || o.n == 1 && dice < 400) {
                queueWorks();
                return queue.remove(0);
            }
            if (dice < 100 && o.cuts.size() < 3) {
                return new Object[] {"cut", number(1, 6), cutA(o), number(0, 12)};
            }
            if (dice < 150 && o.cuts.size() > 2) {
                return new Object[] {"uncut"};
            }
            if (dice < 200 && !o.rows.isEmpty()) {
                return any(o, dice < 170 ? "alterRow" : "judge");
            }
            String name = NAMES[random.nextInt(NAMES.length)];
            boolean seldom = name.equals("feed") || name.equals("works") || name.equals("people")
                    || name.equals("back");
            return any(o, seldom && random.nextInt(10) > 0 ? "prove" : name);
        }

        private int number(int least, int most) {
            if (random.nextInt(60) == 0) {
                return WILD[random.nextInt(WILD.length)];
            }
            return most < least ? least : least + random.nextInt(most - least + 1);
        }

        private int cutA(Oracle o) {
            return random.nextBoolean() ? number(0, o.ties.size() - 1) : number(0, (1 << o.n) - 1);
        }

        private void queueWorks() {
            int n = style == 0 ? 4 + random.nextInt(4) : 2 + random.nextInt(9);
            queue.add(new Object[] {"people", n});
            int ties = random.nextInt(16);
            for (int i = 0; i < ties; i++) {
                queue.add(new Object[] {"tie", number(0, n - 1), number(0, n - 1), number(0, style == 1 ? 3 : 99),
                    random.nextInt(3) == 0 ? 4 : number(1, 4), random.nextInt(6) == 0 ? 1 : 0});
            }
        }

        private void queueText(boolean afresh) {
            if (afresh) {
                queue.add(new Object[] {"works"});
            }
            StringBuilder text = new StringBuilder();
            int n = 1 + random.nextInt(10);
            text.append("people").append(gap()).append(n).append(gap()).append(";");
            Set<String> told = new HashSet<>();
            int ties = 0;
            int pieces = random.nextInt(random.nextInt(4) == 0 ? 30 : 9);
            for (int i = 0; i < pieces; i++) {
                int sort = random.nextInt(8);
                if (sort < 4) {
                    ties += appendTie(text, n, told);
                    continue;
                }
                if (sort == 4) {
                    text.append("first").append(gap()).append(person(n)).append(gap()).append("weight").append(gap())
                            .append(number(0, 9));
                } else if (sort == 5) {
                    text.append("seat ").append(person(n));
                    for (int j = random.nextInt(4); j > 0; j--) {
                        text.append(gap()).append("and").append(gap()).append(person(n));
                    }
                } else if (ties > 0 || random.nextInt(20) == 0) {
                    text.append("late").append(gap()).append(number(0, ties - 1)).append("  ").append(number(0, 9));
                } else {
                    continue;
                }
                text.append(gap()).append(";").append(gap());
            }
            if (random.nextInt(3) == 0 && text.length() > 0) {
                mangle(text);
            }
            queueBytes(text);
            queue.add(new Object[] {"works"});
        }

        private int appendTie(StringBuilder text, int n, Set<String> told) {
            String a = person(n);
            String b = person(n);
            long x = Long.parseLong(a);
            long y = Long.parseLong(b);
            boolean again = x == y || !told.add(Math.min(x, y) + " " + Math.max(x, y));
            if (again && random.nextInt(20) > 0) {
                return 0;
            }
            text.append(gap()).append("tie").append(gap()).append(a).append(" ").append(b);
            List<String> names = new ArrayList<>(List.of("worth", "odds", "must"));
            for (int left = random.nextInt(4); left > 0; left--) {
                String name = names.get(random.nextInt(names.size()));
                if (random.nextInt(15) > 0) {
                    names.remove(name);
                }
                text.append(extra(name));
            }
            text.append(gap()).append(";").append(gap());
            return 1;
        }

        private String gap() {
            int dice = random.nextInt(10);
            return dice < 5 ? " " : dice < 9 ? "" : "  ";
        }

        private String person(int n) {
            int p = random.nextInt(30) == 0 ? number(-1, 12) : random.nextInt(n);
            return (random.nextInt(12) == 0 ? "0" : "") + Math.abs((long) p);
        }

        private String extra(String name) {
            String number = name.equals("worth") ? gap() + number(0, 99) : name.equals("odds") ? gap() + number(1, 4)
                    : "";
            return " " + name + (random.nextInt(30) == 0 ? "" : number) + gap();
        }

        private void mangle(StringBuilder text) {
            int at = random.nextInt(text.length());
            String signs = " ;0123456789aepz{`/:A\t";
            switch (random.nextInt(4)) {
                case 0: text.setLength(at); break;
                case 1: text.deleteCharAt(at); break;
                case 2: text.insert(at, signs.charAt(random.nextInt(signs.length()))); break;
                default: text.setCharAt(at, (char) random.nextInt(256));
            }
        }

        private void queueBytes(StringBuilder text) {
            int at = 0;
            while (at < text.length()) {
                int n = Math.min(text.length() - at, random.nextInt(5) == 0 ? 1 + random.nextInt(8) : 8);
                long eight = 0;
                for (int i = n - 1; i >= 0; i--) {
                    eight = eight << 8 | text.charAt(at + i) & 255;
                }
                if (n < 8 && random.nextBoolean()) {
                    eight |= random.nextLong() << 8 * n;
                }
                queue.add(new Object[] {"feed", eight, n});
                at += n;
            }
        }

        private int anyTie(Oracle o) {
            return number(0, o.ties.size() - 1);
        }

        private int anyOne(Oracle o) {
            return number(0, o.n - 1);
        }

        private Object[] any(Oracle o, String name) {
            int what = number(0, 1);
            switch (name) {
                case "feed": return new Object[] {name, random.nextLong(), number(1, 8)};
                case "people": return new Object[] {name, number(1, 10)};
                case "tie": return new Object[] {name, anyOne(o), anyOne(o), number(0, 99), number(1, 4), what};
                case "tieOf": return new Object[] {name, anyTie(o), number(0, 4)};
                case "first": return new Object[] {name, anyOne(o), random.nextInt(3) == 0 ? 0 : number(0, 9)};
                case "cut": return new Object[] {name, number(1, 6), cutA(o), number(0, 99)};
                case "cutOf": return new Object[] {name, number(0, o.cuts.size() - 1), number(0, 2)};
                case "open": return new Object[] {name, anyTie(o), number(0, 14)};
                case "joined": return new Object[] {name, anyOne(o)};
                case "sets": case "reach": case "chair": return new Object[] {name, what};
                case "chance": case "who": case "guards": return new Object[] {name, anyOne(o), what};
                case "seen": return new Object[] {name, anyOne(o), number(-1, 1)};
                case "fewest": case "between": return new Object[] {name, anyOne(o), anyOne(o), what};
                case "small": case "sit": return new Object[] {name, number(1, 5), what};
                case "early": case "prove": return new Object[] {name, anyOne(o), anyOne(o)};
                case "judge":
                    if (!o.rows.isEmpty() && random.nextInt(3) > 0) {
                        return new Object[] {name, o.rows.get(0)[1], o.rows.get(o.rows.size() - 1)[2]};
                    }
                    return new Object[] {name, anyOne(o), anyOne(o)};
                case "could": return new Object[] {name, anyOne(o), number(0, random.nextBoolean() ? 4 : 100)};
                case "seed": return new Object[] {name, random.nextInt()};
                case "run": return new Object[] {name, anyOne(o), number(0, 20)};
                case "row": return new Object[] {name, number(0, o.rows.size()), number(0, 2)};
                case "alterRow": return new Object[] {name, number(0, o.rows.size() - 1), number(0, 2),
                    number(-1, 10)};
                case "meet": return new Object[] {name, number(1, (1 << o.n) - 1) & number(1, 1023), what};
                case "tell": return new Object[] {name, number(0, random.nextBoolean() ? 4 : 100), what};
                case "best": return new Object[] {name, number(0, 3), what};
                case "sheet": return new Object[] {name, number(0, 3), random.nextBoolean() ? 2 : number(-1, 3),
                    number(-1, random.nextBoolean() ? 5 : 41)};
                case "put": return new Object[] {name, number(0, 3), number(0, 4),
                    random.nextBoolean() ? random.nextInt() : number(0, (1 << o.ties.size()) - 1)};
                case "item": {
                    int sheet = number(0, 3);
                    boolean known = sheet >= 0 && sheet < 4 && o.sheets[sheet] != null && random.nextInt(4) > 0;
                    return new Object[] {name, sheet, known ? o.sheets[sheet].sort : number(0, 3), number(0, 4)};
                }
                case "shelf": {
                    int sort = random.nextInt(4) == 0 ? number(0, 2) : 0;
                    return new Object[] {name, number(0, 3), sort, number(0, sort == 0 ? o.cuts.size() - 1 : 3)};
                }
                case "taken": return new Object[] {name, number(0, 3), random.nextInt(3) == 0 ? number(7, 14)
                        : number(0, 6)};
                case "act":
                    for (int i = number(0, 3); i >= 0 && i <= 4; i--) {
                        queue.add(new Object[] {"trace", number(0, 12)});
                    }
                    return new Object[] {name, number(0, 3), number(0, 3),
                        random.nextBoolean() ? random.nextInt() : number(0, 20)};
                case "trace": return new Object[] {name, number(0, 8)};
                case "many": return new Object[] {name, number(0, 7)};
                default: return new Object[] {name};
            }
        }
    }

    // ---------------------------------------------------------------- the oracle

    private static final class Tie {
        int a;
        int b;
        int worth = 1;
        int odds = 4;
        boolean must;

        Tie(int a, int b) {
            this.a = a;
            this.b = b;
        }
    }

    private static final class ByZero extends RuntimeException {
        private static final long serialVersionUID = 1;
    }

    /** The KINDS as real classes, so that Java itself finds which body runs. */
    private static class Cut {
        final int kind;
        final int n;
        final int a;
        final int b;
        List<Integer> log = new ArrayList<>();

        Cut(int kind, int n, int a, int b) {
            this.kind = kind;
            this.n = n;
            this.a = a;
            this.b = b;
        }

        int parts(int x) {
            log.add(10);
            return x + n;
        }

        int costs(int x) {
            log.add(11);
            return parts(x) * 2;
        }

        int shares(int x) {
            log.add(12);
            if (a == n) {
                throw new ByZero();
            }
            return x / (a - n);
        }

        int tells(int x) {
            log.add(13);
            return costs(x) ^ a;
        }

        static Cut of(int kind, int n, int a, int b) {
            switch (kind) {
                case 1: return new TieCut(kind, n, a, b);
                case 2: return new Table(kind, n, a, b);
                case 3: return new Shift(kind, n, a, b);
                case 4: return new Late(kind, n, a, b);
                case 5: return new Seat(kind, n, a, b);
                default: return new Told(kind, n, a, b);
            }
        }

        boolean isA(int as) {
            switch (as) {
                case 0: return true;
                case 1: return this instanceof TieCut;
                case 2: return this instanceof Table;
                case 3: return this instanceof Shift;
                case 4: return this instanceof Late;
                case 5: return this instanceof Seat;
                default: return this instanceof Told;
            }
        }
    }

    private static class TieCut extends Cut {
        TieCut(int kind, int n, int a, int b) {
            super(kind, n, a, b);
        }

        @Override
        int costs(int x) {
            log.add(20);
            return super.costs(x) - a;
        }
    }

    private static class Table extends Cut {
        Table(int kind, int n, int a, int b) {
            super(kind, n, a, b);
        }

        @Override
        int parts(int x) {
            log.add(30);
            return super.parts(x) * 3;
        }

        @Override
        int tells(int x) {
            log.add(31);
            return super.tells(x) + shares(n);
        }
    }

    private static class Shift extends Table {
        Shift(int kind, int n, int a, int b) {
            super(kind, n, a, b);
        }

        @Override
        int shares(int x) {
            log.add(40);
            return super.shares(x + 2) ^ 1;
        }

        @Override
        int parts(int x) {
            log.add(41);
            return super.parts(x) - n;
        }
    }

    private static class Late extends TieCut {
        Late(int kind, int n, int a, int b) {
            super(kind, n, a, b);
        }

        @Override
        int parts(int x) {
            log.add(50);
            return 0 - super.parts(x);
        }

        @Override
        int costs(int x) {
            log.add(51);
            return super.costs(x) + parts(n);
        }
    }

    private static class Seat extends Shift {
        Seat(int kind, int n, int a, int b) {
            super(kind, n, a, b);
        }

        @Override
        int costs(int x) {
            log.add(60);
            return super.costs(x) + shares(a);
        }

        @Override
        int tells(int x) {
            log.add(61);
            return super.tells(x) * 2;
        }
    }

    private static class Told extends Cut {
        Told(int kind, int n, int a, int b) {
            super(kind, n, a, b);
        }

        @Override
        int parts(int x) {
            log.add(70);
            return super.parts(x) ^ a;
        }

        @Override
        int shares(int x) {
            log.add(71);
            return super.shares(x) + parts(a);
        }
    }

    private static final class Fault extends RuntimeException {
        private static final long serialVersionUID = 1;
        final int place;

        Fault(int place) {
            this.place = place;
        }
    }

    /** Reads a TEXT by a row of tokens that a pattern finds. */
    private static final class TextReader {
        private final List<String> tokens = new ArrayList<>();
        private final List<Integer> places = new ArrayList<>();
        private int at = 0;
        int n;
        final List<Tie> ties = new ArrayList<>();
        final List<Cut> cuts = new ArrayList<>();
        final int[] weights = new int[10];

        TextReader(String text) {
            Matcher m = Pattern.compile("[a-z]+|[0-9]+|[^ ]", Pattern.DOTALL).matcher(text);
            while (m.find()) {
                tokens.add(m.group());
                places.add(m.start());
            }
            tokens.add("");
            places.add(text.length());
            Arrays.fill(weights, 1);
        }

        private void refuse() {
            throw new Fault(places.get(at));
        }

        private boolean sees(String word) {
            return tokens.get(at).equals(word);
        }

        private void take(String word) {
            if (!sees(word)) {
                refuse();
            }
            at++;
        }

        private int number(int least, int most) {
            String token = tokens.get(at);
            if (!token.matches("[0-9]{1,2}") || Integer.parseInt(token) < least || Integer.parseInt(token) > most) {
                refuse();
            }
            at++;
            return Integer.parseInt(token);
        }

        void read() {
            take("people");
            n = number(1, 10);
            take(";");
            while (!sees("")) {
                if (sees("tie")) {
                    readTie();
                } else if (sees("first")) {
                    at++;
                    int p = number(0, n - 1);
                    take("weight");
                    weights[p] = number(0, 9);
                } else if (sees("seat") && cuts.size() < 8) {
                    at++;
                    int set = 1 << number(0, n - 1);
                    while (sees("and")) {
                        at++;
                        set |= 1 << number(0, n - 1);
                    }
                    cuts.add(Cut.of(5, cuts.size(), set, 0));
                } else if (sees("late") && cuts.size() < 8) {
                    at++;
                    int tie = number(0, ties.size() - 1);
                    cuts.add(Cut.of(4, cuts.size(), tie, number(0, 99)));
                } else {
                    refuse();
                }
                take(";");
            }
        }

        private void readTie() {
            if (ties.size() == 14) {
                refuse();
            }
            at++;
            int a = number(0, n - 1);
            int b = number(0, n - 1);
            for (Tie t : ties) {
                if (t.a == a && t.b == b || t.a == b && t.b == a) {
                    at--;
                    refuse();
                }
            }
            if (a == b) {
                at--;
                refuse();
            }
            Tie tie = new Tie(a, b);
            ties.add(tie);
            Set<String> told = new HashSet<>();
            while (sees("worth") || sees("odds") || sees("must")) {
                String name = tokens.get(at);
                if (!told.add(name)) {
                    refuse();
                }
                at++;
                if (name.equals("worth")) {
                    tie.worth = number(0, 99);
                } else if (name.equals("odds")) {
                    tie.odds = number(1, 4);
                } else {
                    tie.must = true;
                }
            }
        }
    }

    private static final class Kept {
        int n;
        List<Tie> ties;
        List<Cut> cuts;
        int[] weights;
        Integer[] seen;
        int z;
    }

    private static final class Row {
        final int sort;
        final long[] items;

        Row(int sort, int n) {
            this.sort = sort;
            items = new long[n];
        }
    }

    private static final class Oracle {
        int n = 1;
        List<Tie> ties = new ArrayList<>();
        List<Cut> cuts = new ArrayList<>();
        int[] weights = new int[10];
        Integer[] seen = new Integer[10];
        int z = 1;
        List<int[]> rows = new ArrayList<>();
        StringBuilder tape = new StringBuilder();
        final Row[] sheets = new Row[4];
        final Object[] shelves = new Object[4];
        List<Integer> trace = new ArrayList<>();
        Kept kept;

        Oracle() {
            Arrays.fill(weights, 1);
        }

        private boolean noPerson(int p) {
            return p < 0 || p >= n;
        }

        private static boolean not01(int what) {
            return what != 0 && what != 1;
        }

        int feed(long eight, int k) {
            if (k < 1 || k > 8) {
                return -1;
            }
            if (tape.length() + k > 200) {
                return -2;
            }
            long rest = eight;
            for (int i = 0; i < k; i++) {
                tape.append((char) (rest & 255));
                rest >>= 8;
            }
            return tape.length();
        }

        int works() {
            TextReader reader = new TextReader(tape.toString());
            tape = new StringBuilder();
            try {
                reader.read();
            } catch (Fault f) {
                return -100 - f.place;
            }
            people(reader.n);
            ties = reader.ties;
            cuts = reader.cuts;
            weights = reader.weights;
            return ties.size();
        }

        int people(int k) {
            if (k < 1 || k > 10) {
                return -1;
            }
            n = k;
            ties = new ArrayList<>();
            cuts = new ArrayList<>();
            weights = new int[10];
            Arrays.fill(weights, 1);
            seen = new Integer[10];
            rows = new ArrayList<>();
            return k;
        }

        private Tie tieFor(int a, int b) {
            for (Tie t : ties) {
                if (t.a == a && t.b == b || t.a == b && t.b == a) {
                    return t;
                }
            }
            return null;
        }

        int tie(int a, int b, int worth, int odds, boolean must) {
            if (noPerson(a) || noPerson(b) || a == b || worth < 0 || worth > 99 || odds < 1 || odds > 4) {
                return -1;
            }
            if (ties.size() == 14) {
                return -2;
            }
            if (tieFor(a, b) != null) {
                return -4;
            }
            Tie t = new Tie(a, b);
            t.worth = worth;
            t.odds = odds;
            t.must = must;
            ties.add(t);
            return ties.size() - 1;
        }

        int tieOf(int tie, int what) {
            if (tie < 0 || tie >= ties.size() || what < 0 || what > 4) {
                return -1;
            }
            Tie t = ties.get(tie);
            return new int[] {Math.min(t.a, t.b), Math.max(t.a, t.b), t.worth, t.odds, t.must ? 1 : 0}[what];
        }

        int first(int p, int weight) {
            if (noPerson(p) || weight < 0 || weight > 9) {
                return -1;
            }
            int was = weights[p];
            weights[p] = weight;
            return was;
        }

        int cut(int kind, int a, int b) {
            if (kind < 1 || kind > 6 || b < 0 || b > 99 || a < 0) {
                return -1;
            }
            if (kind == 1 || kind == 4 ? a >= ties.size() : a >= 1 << n) {
                return -1;
            }
            if (cuts.size() == 8) {
                return -2;
            }
            cuts.add(Cut.of(kind, cuts.size(), a, b));
            return cuts.size() - 1;
        }

        int cutOf(int cut, int what) {
            if (cut < 0 || cut >= cuts.size() || what < 0 || what > 2) {
                return -1;
            }
            Cut c = cuts.get(cut);
            return new int[] {c.kind, c.a, c.b}[what];
        }

        int uncut() {
            if (cuts.isEmpty()) {
                return -3;
            }
            cuts.remove(cuts.size() - 1);
            return cuts.size();
        }

        private boolean isOpen(Tie t, int day) {
            for (Cut c : cuts) {
                boolean hasA = (c.a & 1 << t.a) != 0;
                boolean hasB = (c.a & 1 << t.b) != 0;
                boolean isIt = c.a == ties.indexOf(t);
                boolean cutNow;
                switch (c.kind) {
                    case 1: cutNow = isIt; break;
                    case 2: cutNow = hasA != hasB && !t.must; break;
                    case 3: cutNow = hasA != hasB; break;
                    case 4: cutNow = isIt && c.b <= day; break;
                    case 5: cutNow = hasA || hasB; break;
                    default: cutNow = hasA && hasB;
                }
                if (cutNow) {
                    return false;
                }
            }
            return true;
        }

        int open(int tie, int day) {
            if (tie < 0 || tie >= ties.size() || day < 0 || day > 99) {
                return -1;
            }
            return isOpen(ties.get(tie), day) ? 1 : 0;
        }

        private List<Tie> openTies() {
            List<Tie> some = new ArrayList<>();
            for (Tie t : ties) {
                if (isOpen(t, 0)) {
                    some.add(t);
                }
            }
            return some;
        }

        /** Labels: the least PERSON to whom one is joined by these TIES; -1 for those who are not among. */
        private int[] label(List<Tie> some, int among) {
            int[] label = new int[n];
            for (int p = 0; p < n; p++) {
                label[p] = (among & 1 << p) == 0 ? -1 : p;
            }
            for (int round = 0; round < n; round++) {
                for (Tie t : some) {
                    if (label[t.a] >= 0 && label[t.b] >= 0) {
                        int least = Math.min(label[t.a], label[t.b]);
                        label[t.a] = least;
                        label[t.b] = least;
                    }
                }
            }
            return label;
        }

        private int setOf(int[] label, int p) {
            int set = 0;
            for (int q = 0; q < n; q++) {
                if (label[q] >= 0 && label[q] == label[p]) {
                    set |= 1 << q;
                }
            }
            return set;
        }

        private int all() {
            return (1 << n) - 1;
        }

        int joined(int p) {
            return noPerson(p) ? -1 : setOf(label(openTies(), all()), p);
        }

        private int greatest(int[] label) {
            int most = 0;
            for (int p = 0; p < n; p++) {
                if (label[p] >= 0) {
                    most = Math.max(most, Integer.bitCount(setOf(label, p)));
                }
            }
            return most;
        }

        int sets(int what) {
            if (not01(what)) {
                return -1;
            }
            int[] label = label(openTies(), all());
            Set<Integer> labels = new HashSet<>();
            for (int l : label) {
                labels.add(l);
            }
            return what == 0 ? labels.size() : greatest(label);
        }

        private int totalWeight() {
            int sum = 0;
            for (int p = 0; p < n; p++) {
                sum += weights[p];
            }
            return sum;
        }

        private List<Tie> unsure() {
            List<Tie> some = openTies();
            some.removeIf(t -> t.odds == 4);
            return some;
        }

        /** odds[f][k]: by 4 to the UNSURE, that just the set k knows, if f was FIRST. */
        private long[][] worlds() {
            List<Tie> unsure = unsure();
            List<Tie> sure = openTies();
            sure.removeAll(unsure);
            long[][] odds = new long[n][1 << n];
            branch(unsure, 0, sure, 1, odds);
            return odds;
        }

        private void branch(List<Tie> unsure, int i, List<Tie> telling, long odds, long[][] sum) {
            if (i == unsure.size()) {
                int[] label = label(telling, all());
                for (int f = 0; f < n; f++) {
                    sum[f][setOf(label, f)] += odds;
                }
                return;
            }
            Tie t = unsure.get(i);
            branch(unsure, i + 1, telling, odds * (4 - t.odds), sum);
            List<Tie> more = new ArrayList<>(telling);
            more.add(t);
            branch(unsure, i + 1, more, odds * t.odds, sum);
        }

        private static long fraction(long above, long below, int part) {
            if (above == 0) {
                return part;
            }
            long common = java.math.BigInteger.valueOf(above).gcd(java.math.BigInteger.valueOf(below)).longValue();
            return part == 0 ? above / common : below / common;
        }

        int chance(int p, int part) {
            if (noPerson(p) || not01(part)) {
                return -1;
            }
            if (totalWeight() == 0) {
                return -3;
            }
            if (unsure().size() > 9) {
                return -4;
            }
            long[][] worlds = worlds();
            long sum = 0;
            long below = 0;
            for (int f = 0; f < n; f++) {
                for (int k = 0; k < 1 << n; k++) {
                    sum += (k & 1 << p) != 0 ? weights[f] * worlds[f][k] : 0;
                    below += weights[f] * worlds[f][k];
                }
            }
            return (int) fraction(sum, below, part);
        }

        long reach(int part) {
            if (not01(part)) {
                return -1;
            }
            if (totalWeight() == 0) {
                return -3;
            }
            if (unsure().size() > 9) {
                return -4;
            }
            long[][] worlds = worlds();
            long sum = 0;
            long below = 0;
            for (int f = 0; f < n; f++) {
                for (int k = 0; k < 1 << n; k++) {
                    sum += weights[f] * worlds[f][k] * Integer.bitCount(k);
                    below += weights[f] * worlds[f][k];
                }
            }
            return fraction(sum, below, part);
        }

        int seen(int p, int v) {
            if (noPerson(p) || v < -1 || v > 1) {
                return -1;
            }
            Integer was = seen[p];
            seen[p] = v == -1 ? null : (Integer) v;
            return was == null ? -9 : was;
        }

        int who(int p, int part) {
            if (noPerson(p) || not01(part)) {
                return -1;
            }
            if (unsure().size() > 9) {
                return -4;
            }
            long[][] worlds = worlds();
            long mine = 0;
            long below = 0;
            for (int k = 0; k < 1 << n; k++) {
                boolean fits = true;
                for (int q = 0; q < n; q++) {
                    if (seen[q] != null && (seen[q] == 1) != ((k & 1 << q) != 0)) {
                        fits = false;
                    }
                }
                for (int f = 0; fits && f < n; f++) {
                    below += weights[f] * worlds[f][k];
                    mine += f == p ? weights[f] * worlds[f][k] : 0;
                }
            }
            return below == 0 ? -3 : (int) fraction(mine, below, part);
        }

        int fewest(int a, int b, int what) {
            if (noPerson(a) || noPerson(b) || a == b || not01(what)) {
                return -1;
            }
            List<Tie> open = openTies();
            List<Tie> may = new ArrayList<>(open);
            may.removeIf(t -> t.must);
            int least = Integer.MAX_VALUE;
            for (int set = 0; set < 1 << may.size(); set++) {
                int worth = 0;
                List<Tie> left = new ArrayList<>(open);
                for (int i = 0; i < may.size(); i++) {
                    if ((set & 1 << i) != 0) {
                        left.remove(may.get(i));
                        worth += may.get(i).worth;
                    }
                }
                int size = what == 0 ? Integer.bitCount(set) : worth;
                if (size < least) {
                    int[] label = label(left, all());
                    if (label[a] != label[b]) {
                        least = size;
                    }
                }
            }
            return least == Integer.MAX_VALUE ? -3 : least;
        }

        /** Sets by how many they have, then as bits. */
        private List<Integer> setsInOrder() {
            List<Integer> some = new ArrayList<>();
            for (int set = 0; set <= all(); set++) {
                some.add(set);
            }
            some.sort((x, y) -> Integer.bitCount(x) != Integer.bitCount(y)
                    ? Integer.bitCount(x) - Integer.bitCount(y) : x - y);
            return some;
        }

        int between(int a, int b, int what) {
            if (noPerson(a) || noPerson(b) || a == b || not01(what)) {
                return -1;
            }
            Tie t = tieFor(a, b);
            if (t != null && isOpen(t, 0)) {
                return -3;
            }
            for (int set : setsInOrder()) {
                if ((set & (1 << a | 1 << b)) == 0) {
                    int[] label = label(openTies(), all() & ~set);
                    if (label[a] != label[b]) {
                        return what == 0 ? Integer.bitCount(set) : set;
                    }
                }
            }
            throw new IllegalStateException();
        }

        /** All partings as rows of sets. */
        private void partings(int p, List<Integer> sets, int m, List<List<Integer>> found) {
            if (p == n) {
                found.add(new ArrayList<>(sets));
                return;
            }
            for (int i = 0; i < sets.size(); i++) {
                if (Integer.bitCount(sets.get(i)) < m) {
                    sets.set(i, sets.get(i) | 1 << p);
                    partings(p + 1, sets, m, found);
                    sets.set(i, sets.get(i) & ~(1 << p));
                }
            }
            sets.add(1 << p);
            partings(p + 1, sets, m, found);
            sets.remove(sets.size() - 1);
        }

        private static boolean within(Tie t, List<Integer> sets) {
            for (int set : sets) {
                if ((set & 1 << t.a) != 0 && (set & 1 << t.b) != 0) {
                    return true;
                }
            }
            return false;
        }

        int small(int m, int what) {
            if (m < 1 || m > 10 || not01(what)) {
                return -1;
            }
            if (n > 7) {
                return -4;
            }
            List<List<Integer>> found = new ArrayList<>();
            partings(0, new ArrayList<>(), m, found);
            int[] least = null;
            for (List<Integer> sets : found) {
                int[] cost = new int[2];
                boolean fits = true;
                for (Tie t : openTies()) {
                    if (!within(t, sets)) {
                        fits &= !t.must;
                        cost[0]++;
                        cost[1] += t.worth;
                    }
                }
                if (fits && (least == null || cost[0] < least[0] || cost[0] == least[0] && cost[1] < least[1])) {
                    least = cost;
                }
            }
            return least == null ? -3 : least[what];
        }

        int sit(int m, int what) {
            if (m < 1 || m > 10 || not01(what)) {
                return -1;
            }
            if (n > 7) {
                return -4;
            }
            List<List<Integer>> found = new ArrayList<>();
            partings(0, new ArrayList<>(), m, found);
            List<Integer> worths = new ArrayList<>();
            for (List<Integer> sets : found) {
                worths.add(ties.stream().filter(t -> within(t, sets)).mapToInt(t -> t.worth).sum());
            }
            int most = worths.stream().mapToInt(w -> w).max().getAsInt();
            return what == 0 ? most : (int) worths.stream().filter(w -> w == most).count();
        }

        /** Who knows behind so many DAYS. */
        private Set<Integer> knowing(Set<Integer> firsts, int days) {
            Set<Integer> knows = new TreeSet<>(firsts);
            for (int day = 0; day < days; day++) {
                Set<Integer> next = new TreeSet<>(knows);
                for (Tie t : ties) {
                    if (isOpen(t, day)) {
                        if (knows.contains(t.a)) {
                            next.add(t.b);
                        }
                        if (knows.contains(t.b)) {
                            next.add(t.a);
                        }
                    }
                }
                knows = next;
            }
            return knows;
        }

        private static int bits(Set<Integer> some) {
            int set = 0;
            for (int p : some) {
                set |= 1 << p;
            }
            return set;
        }

        private int earlyOf(int from, int to) {
            for (int days = 0; days <= 100; days++) {
                if (knowing(Set.of(from), days).contains(to)) {
                    return days;
                }
            }
            return -3;
        }

        int early(int from, int to) {
            return noPerson(from) || noPerson(to) ? -1 : earlyOf(from, to);
        }

        int could(int from, int days) {
            return noPerson(from) || days < 0 || days > 100 ? -1 : bits(knowing(Set.of(from), days));
        }

        int seed(int v) {
            int was = z;
            z = v;
            return was;
        }

        int run(int from, int days) {
            if (noPerson(from) || days < 0 || days > 20) {
                return -1;
            }
            Set<Integer> knows = new TreeSet<>(Set.of(from));
            for (int day = 0; day < days; day++) {
                Set<Integer> ahead = new TreeSet<>(knows);
                for (Tie t : ties) {
                    if (isOpen(t, day) && ahead.contains(t.a) != ahead.contains(t.b)) {
                        z = z * 1103515245 + 12345;
                        if ((z >>> 16) % 4 < t.odds) {
                            knows.add(t.a);
                            knows.add(t.b);
                        }
                    }
                }
            }
            return bits(knows);
        }

        private boolean threat(Set<Integer> knows, Set<Integer> away) {
            for (Tie t : openTies()) {
                if (knows.contains(t.a) && !knows.contains(t.b) && !away.contains(t.b)
                        || knows.contains(t.b) && !knows.contains(t.a) && !away.contains(t.a)) {
                    return true;
                }
            }
            return false;
        }

        private int[] guard(Set<Integer> knows, Set<Integer> away) {
            if (!threat(knows, away)) {
                return new int[] {knows.size(), -9};
            }
            int[] least = {99, -9};
            for (int p = 0; p < n; p++) {
                if (knows.contains(p) || away.contains(p)) {
                    continue;
                }
                Set<Integer> gone = new TreeSet<>(away);
                gone.add(p);
                Set<Integer> next = new TreeSet<>(knows);
                for (Tie t : openTies()) {
                    if (knows.contains(t.a) && !gone.contains(t.b)) {
                        next.add(t.b);
                    }
                    if (knows.contains(t.b) && !gone.contains(t.a)) {
                        next.add(t.a);
                    }
                }
                int end = guard(next, gone)[0];
                if (end < least[0]) {
                    least = new int[] {end, p};
                }
            }
            return least;
        }

        int guards(int from, int what) {
            if (noPerson(from) || not01(what)) {
                return -1;
            }
            return n > 8 ? -4 : guard(Set.of(from), Set.of())[what];
        }

        int prove(int from, int to) {
            if (noPerson(from) || noPerson(to)) {
                return -1;
            }
            if (earlyOf(from, to) < 0) {
                return -3;
            }
            List<int[]> found = new ArrayList<>();
            int told = to;
            while (told != from) {
                int day = earlyOf(from, told) - 1;
                int teller = -1;
                for (int p = n - 1; p >= 0; p--) {
                    Tie t = tieFor(p, told);
                    if (t != null && isOpen(t, day) && knowing(Set.of(from), day).contains(p)) {
                        teller = p;
                    }
                }
                found.add(0, new int[] {day, teller, told});
                told = teller;
            }
            rows = found;
            return rows.size();
        }

        int row(int i, int what) {
            return i < 0 || i >= rows.size() || what < 0 || what > 2 ? -9 : rows.get(i)[what];
        }

        int alterRow(int i, int what, int v) {
            int was = row(i, what);
            if (i >= 0 && i < rows.size() && what >= 0 && what <= 2) {
                rows.get(i)[what] = v;
            }
            return was;
        }

        int judge(int from, int to) {
            if (noPerson(from) || noPerson(to)) {
                return -1;
            }
            for (int i = 0; i < rows.size(); i++) {
                int[] r = rows.get(i);
                boolean right = r[0] >= 0 && r[0] <= 99;
                right &= i == 0 || r[0] > rows.get(i - 1)[0];
                right &= r[1] == (i == 0 ? from : rows.get(i - 1)[2]);
                Tie t = tieFor(r[1], r[2]);
                if (!right || t == null || !isOpen(t, r[0])) {
                    return i + 1;
                }
            }
            int last = rows.isEmpty() ? from : rows.get(rows.size() - 1)[2];
            return last == to ? 0 : 222;
        }

        int chair(int what) {
            if (not01(what)) {
                return -1;
            }
            int[] least = {-1, 99};
            for (int p = 0; p < n; p++) {
                int size = greatest(label(openTies(), all() & ~(1 << p)));
                if (size < least[1]) {
                    least = new int[] {p, size};
                }
            }
            return least[what];
        }

        int meet(int set, int what) {
            if (set <= 0 || set > all() || not01(what)) {
                return -1;
            }
            for (int some : setsInOrder()) {
                if ((some & set) == set) {
                    int[] label = label(openTies(), some);
                    if (setOf(label, Integer.numberOfTrailingZeros(some)) == some) {
                        return what == 0 ? Integer.bitCount(some) : some;
                    }
                }
            }
            return -3;
        }

        int tell(int days, int what) {
            if (days < 0 || days > 100 || not01(what)) {
                return -1;
            }
            for (int some : setsInOrder()) {
                Set<Integer> firsts = new TreeSet<>();
                for (int p = 0; p < n; p++) {
                    if ((some & 1 << p) != 0) {
                        firsts.add(p);
                    }
                }
                if (knowing(firsts, days).size() == n) {
                    return what == 0 ? some == 0 ? 0 : firsts.size() : some;
                }
            }
            throw new IllegalStateException();
        }

        int best(int sheet, int what) {
            if (sheet < 0 || sheet > 3 || not01(what)) {
                return -1;
            }
            if (sheets[sheet] == null) {
                return -11;
            }
            if (sheets[sheet].sort != 2) {
                return -13;
            }
            int[] least = {-3, 99};
            for (int i = 0; i < sheets[sheet].items.length; i++) {
                List<Tie> left = openTies();
                for (int t = 0; t < ties.size(); t++) {
                    if ((sheets[sheet].items[i] & 1L << t) != 0) {
                        left.remove(ties.get(t));
                    }
                }
                int size = greatest(label(left, all()));
                if (size < least[1]) {
                    least = new int[] {i, size};
                }
            }
            return least[0] < 0 ? -3 : least[what];
        }

        int sheet(int sheet, int sort, int k) {
            if (sheet < 0 || sheet > 3 || sort < -1 || sort > 3) {
                return -1;
            }
            if (sort == -1) {
                sheets[sheet] = null;
                return 1;
            }
            if (k > 40) {
                return -1;
            }
            if (k < 0) {
                return -14;
            }
            sheets[sheet] = new Row(sort, k);
            return 1;
        }

        int put(int sheet, int i, int v) {
            if (sheet < 0 || sheet > 3) {
                return -1;
            }
            if (sheets[sheet] == null) {
                return -11;
            }
            if (i < 0 || i >= sheets[sheet].items.length) {
                return -12;
            }
            sheets[sheet].items[i] = new long[] {(byte) v, (short) v, v, v}[sheets[sheet].sort];
            return 1;
        }

        int item(int sheet, int sort, int i) {
            if (sheet < 0 || sheet > 3 || sort < 0 || sort > 3) {
                return -1;
            }
            if (sheets[sheet] == null) {
                return -11;
            }
            if (sheets[sheet].sort != sort) {
                return -13;
            }
            if (i < 0 || i >= sheets[sheet].items.length) {
                return -12;
            }
            return (int) sheets[sheet].items[i];
        }

        int shelf(int shelf, int what, int k) {
            if (shelf < 0 || shelf > 3 || what < 0 || what > 2) {
                return -1;
            }
            if (what == 0 && (k < 0 || k >= cuts.size()) || what == 1 && (k < 0 || k > 3)) {
                return -1;
            }
            shelves[shelf] = what == 0 ? (Object) k : what == 1 ? sheets[k] : null;
            return 1;
        }

        private Object onShelf(int shelf) {
            if (shelves[shelf] instanceof Integer) {
                int cut = (Integer) shelves[shelf];
                return cut < cuts.size() ? cuts.get(cut) : null;
            }
            return shelves[shelf];
        }

        int taken(int shelf, int as) {
            if (shelf < 0 || shelf > 3 || as < 0 || as > 13 || as > 6 && as < 10) {
                return -1;
            }
            Object thing = onShelf(shelf);
            if (thing == null) {
                return -11;
            }
            if (as >= 10) {
                return thing instanceof Row && ((Row) thing).sort == as - 10 ? ((Row) thing).items.length : -13;
            }
            return thing instanceof Cut && ((Cut) thing).isA(as) ? ((Cut) thing).n : -13;
        }

        int act(int shelf, int act, int x) {
            trace = new ArrayList<>();
            if (shelf < 0 || shelf > 3 || act < 0 || act > 3 || !(onShelf(shelf) instanceof Cut)) {
                return 0;
            }
            Cut cut = (Cut) onShelf(shelf);
            cut.log = trace;
            try {
                switch (act) {
                    case 0: return cut.parts(x);
                    case 1: return cut.costs(x);
                    case 2: return cut.shares(x);
                    default: return cut.tells(x);
                }
            } catch (ByZero e) {
                return -15;
            }
        }

        int trace(int i) {
            return i < 0 || i >= Math.min(30, trace.size()) ? -3 : trace.get(i);
        }

        int many(int what) {
            int count = 0;
            for (int p = 0; p < n; p++) {
                count += seen[p] == null ? 0 : 1;
            }
            int[] all = {n, ties.size(), cuts.size(), count, rows.size(), tape.length(), Math.min(30, trace.size()),
                unsure().size()};
            return what < 0 || what >= all.length ? -1 : all[what];
        }

        int keep() {
            kept = new Kept();
            kept.n = n;
            kept.ties = new ArrayList<>(ties);
            kept.cuts = new ArrayList<>(cuts);
            kept.weights = weights.clone();
            kept.seen = seen.clone();
            kept.z = z;
            return 1;
        }

        int back() {
            if (kept == null) {
                return -3;
            }
            n = kept.n;
            ties = new ArrayList<>(kept.ties);
            cuts = new ArrayList<>(kept.cuts);
            weights = kept.weights.clone();
            seen = kept.seen.clone();
            z = kept.z;
            return ties.size();
        }
    }
}
