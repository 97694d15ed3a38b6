/** DAYS, RUNS, GUARDS and ROWS: Promises 22 to 30. */
final class EdgeOfDays {
    private static final long LOWEST_32 = 0xffffffffL;

    private EdgeOfDays() {
    }

    static void all() {
        termsOfDays();
        termsOfRuns();
        daysAndRuns();
        rows();
    }

    private static void termsOfDays() {
        int t = Edge.TERMS;
        Edge.sentence(t, "on a DAY each one who knows ahead of it tells over all TIES that are OPEN on that DAY",
                EdgeOfDays::whoKnowsAhead);
        Edge.sentence(t, "all go DAY by DAY from DAY 0 to 99", EdgeOfDays::dayByDay);
        Edge.sentence(t, "if another one knows ahead of DAY 0 (he himself: 0)", EdgeOfDays::himself);
        Edge.sentence(t, "the last one tells him on DAY EARLY less 1", EdgeOfDays::earlyLessOne);
        Edge.sentence(t, "FROM the least PERSON who could know ahead of that DAY and has a TIE to TO that is OPEN on "
                + "it", EdgeOfDays::leastPerson);
        Edge.sentence(t, "and so on to the one who knew", EdgeOfDays::toTheOneWhoKnew);
        Edge.sentence(t, "right is one with a DAY of 0 to 99", EdgeOfDays::dayOfARow);
        Edge.sentence(t, "above the DAY of the ROW ahead", EdgeOfDays::aboveTheDayAhead);
        Edge.sentence(t, "FROM whom the ROW ahead tells (in the first: who knew)", EdgeOfDays::fromWhom);
        Edge.sentence(t, "with a TIE of FROM and TO that is OPEN on that DAY", EdgeOfDays::tieOfARow);
        Edge.sentence(t, "but the last one tells another one (or there is none, and the two are unlike): 222",
                EdgeOfDays::anotherEnd);
    }

    private static void termsOfRuns() {
        int t = Edge.TERMS;
        Edge.sentence(t, "if it is OPEN on that DAY, and just one of its two knew ahead of the DAY",
                EdgeOfDays::justOneKnew);
        Edge.sentence(t, "z (an int; 1 at first) becomes z * 1103515245 + 12345", EdgeOfDays::nextZ);
        Edge.sentence(t, "if (z >>> 16) % 4 is less than ODDS", EdgeOfDays::lessThanOdds);
        Edge.sentence(t, "as long as somebody who doesn't know and isn't away has a TIE OPEN on DAY 0 with one who "
                + "knows", EdgeOfDays::asLongAsSomebody);
        Edge.sentence(t, "one who doesn't know and isn't away goes away for good", EdgeOfDays::awayForGood);
        Edge.sentence(t, "The least who know in the end, and whom to send away first", EdgeOfDays::leastInTheEnd);
    }

    private static void daysAndRuns() {
        Edge.sentence(22, "if another one (from) knows", EdgeOfDays::earlyOfAll);
        Edge.sentence(22, "BAD", EdgeOfDays::earlyBad);
        Edge.sentence(22, "NONE: he can't", EdgeOfDays::earlyNone);
        Edge.sentence(23, "so many DAYS (0 to 100)", EdgeOfDays::couldDays);
        Edge.sentence(23, "BAD", EdgeOfDays::couldBad);
        Edge.sentence(24, "z becomes v: what it was", EdgeOfDays::seedWas);
        Edge.sentence(25, "RUN of so many DAYS (0 to 20)", EdgeOfDays::runDays);
        Edge.sentence(25, "BAD", EdgeOfDays::runBad);
        Edge.sentence(26, "of several the least", EdgeOfDays::guardsOfSeveral);
        Edge.sentence(26, "(1; -9: nobody need be)", EdgeOfDays::nobodyNeedBe);
        Edge.sentence(26, "BAD", EdgeOfDays::guardsBad);
        Edge.sentence(26, "STATE: more than 8 PEOPLE", EdgeOfDays::guardsState);
    }

    private static void rows() {
        Edge.sentence(27, "ROWS of how one (to) could know EARLY: how many", EdgeOfDays::howManyRows);
        Edge.sentence(27, "BAD", EdgeOfDays::proveBad);
        Edge.sentence(27, "NONE: he can't", EdgeOfDays::proveNone);
        Edge.sentence(28, "what = 0 DAY, 1 FROM, 2 TO", EdgeOfDays::rowWhat);
        Edge.sentence(28, "-9: there is none such, another what", EdgeOfDays::rowNone);
        Edge.sentence(29, "It becomes v: what it was", EdgeOfDays::alterWas);
        Edge.sentence(29, "-9 likewise", EdgeOfDays::alterNone);
        Edge.sentence(30, "0 all is right", EdgeOfDays::judgeRight);
        Edge.sentence(30, "else the first ROW that isn't, and 1 more", EdgeOfDays::judgeFirst);
        Edge.sentence(30, "222", EdgeOfDays::judge222);
        Edge.sentence(30, "BAD", EdgeOfDays::judgeBad);
    }

    // ---------------------------------------------------------------- days

    private static void whoKnowsAhead() {
        HushTables x = Edge.chain(4);
        Edge.row("who is told on a DAY tells on the next, could(0, #)", days -> x.could(0, days), 1, 3, 7, 15, 15);
        HushTables y = Edge.star(10, 1);
        Edge.due("over all TIES, whatever their ODDS", y.could(0, 1), 1023);
        // 1-2 is OPEN on DAYS 0 and 1, and 1 is told on DAY 0
        HushTables z = Edge.of("people 3;tie 0 1;tie 1 2;late 1 2;");
        Edge.due("on the last DAY on which it is OPEN", z.early(0, 2), 2);
        z.cut(4, 1, 1);
        Edge.due("a DAY too late", z.early(0, 2), -3);
    }

    private static void dayByDay() {
        HushTables x = Edge.chain(10);
        Edge.due("the farthest", x.early(0, 9), 9);
        Edge.due("behind all DAYS", x.could(0, 100), 1023);
        for (int i = 0; i < 8; i++) {
            x.cut(4, i, 99);
        }
        Edge.due("cut on the last DAY", x.could(0, 100), 1023);
        // a ROW of the last DAY
        x.uncut();
        x.prove(8, 9);
        x.alterRow(0, 0, 99);
        Edge.due("on DAY 99 it goes", x.judge(8, 9), 0);
        x.alterRow(0, 0, 100);
        Edge.due("there is no DAY 100", x.judge(8, 9), 1);
    }

    private static void himself() {
        HushTables x = Edge.chain(10);
        Edge.each("early(#, #)", 0, p -> x.early(p, p), 0, 5, 9);
        Edge.due("with all TIES cut", cutAll(x).early(3, 3), 0);
        Edge.due("of a new object", new HushTables().early(0, 0), 0);
    }

    private static HushTables cutAll(HushTables x) {
        x.cut(5, 1023, 0);
        return x;
    }

    private static void earlyOfAll() {
        HushTables x = Edge.chain(10);
        Edge.row("from one end, early(0, #)", to -> x.early(0, to), 0, 1, 2, 3, 4, 5, 6, 7, 8, 9);
        Edge.row("from the other, early(9, #)", to -> x.early(9, to), 9, 8, 7, 6, 5, 4, 3, 2, 1, 0);
        // the longer way, when the shorter one is cut
        HushTables y = Edge.of("people 4;tie 0 3;tie 0 1;tie 1 2;tie 2 3;late 0 0;");
        Edge.due("round about", y.early(0, 3), 3);
        y.uncut();
        y.cut(4, 0, 1);
        Edge.due("just on DAY 0", y.early(0, 3), 1);
    }

    private static void earlyBad() {
        HushTables x = Edge.of(5);
        Edge.each("early(#, 0)", -1, p -> x.early(p, 0), -1, 5, 10, Edge.LOW, Edge.HIGH);
        Edge.each("early(0, #)", -1, p -> x.early(0, p), -1, 5, 10, Edge.LOW, Edge.HIGH);
        Edge.due("of the last", x.early(4, 4), 0);
    }

    private static void earlyNone() {
        Edge.due("no TIES", Edge.of(2).early(0, 1), -3);
        Edge.due("all cut", cutAll(Edge.chain(10)).early(0, 1), -3);
        HushTables x = Edge.of("people 3;tie 0 1;tie 1 2;late 1 1;");
        Edge.due("JOINED, but a DAY too late", x.early(0, 2), -3);
        Edge.due("the other way in time", x.early(2, 0), 2);
    }

    private static void couldDays() {
        HushTables x = Edge.chain(10);
        Edge.row("could(4, #)", days -> x.could(4, days), 16, 56, 124, 254, 511, 1023, 1023);
        Edge.each("could(4, #)", 1023, days -> x.could(4, days), 5, 99, 100);
        Edge.due("alone", new HushTables().could(0, 100), 1);
    }

    private static void couldBad() {
        HushTables x = Edge.of(5);
        Edge.each("could(#, 1)", -1, p -> x.could(p, 1), -1, 5, 10, Edge.LOW, Edge.HIGH);
        Edge.each("could(0, #)", -1, days -> x.could(0, days), -1, 101, Edge.LOW, Edge.HIGH);
    }

    // ---------------------------------------------------------------- runs

    private static void seedWas() {
        HushTables x = new HushTables();
        Edge.due("1 at first", x.seed(0), 1);
        Edge.due("0", x.seed(Edge.LOW), 0);
        Edge.due("the lowest", x.seed(Edge.HIGH), Edge.LOW);
        Edge.due("the highest", x.seed(-1), Edge.HIGH);
        Edge.due("one below 0", x.seed(-1), -1);
    }

    /** z behind one step, reckoned in longs that don't wrap, as a number of 32 bits. */
    private static long next(long z) {
        return (z & LOWEST_32) * 1103515245L + 12345L & LOWEST_32;
    }

    private static long next(long z, int times) {
        long then = z & LOWEST_32;
        for (int i = 0; i < times; i++) {
            then = next(then);
        }
        return then;
    }

    private static void justOneKnew() {
        HushTables x = Edge.of("people 3;tie 0 1;tie 1 2;");
        Edge.due("told on a DAY, not by whom is told on it", x.run(0, 1), 3);
        Edge.due("one step: of 1-2 neither knew", x.seed(1), (int) next(1, 1));
        Edge.due("two DAYS", x.run(0, 2), 7);
        Edge.due("two steps: of 0-1 both knew", x.seed(1), (int) next(1, 2));
        x.cut(4, 1, 2);
        Edge.due("OPEN on DAY 1", x.run(0, 20), 7);
        x.cut(4, 1, 1);
        x.seed(1);
        Edge.due("not OPEN on DAY 1", x.run(0, 20), 3);
        Edge.due("no step for it", x.seed(1), (int) next(1, 1));
        // 1 and 2 tell 3 on the same DAY: each takes its step
        HushTables y = Edge.of("people 4;tie 0 1;tie 0 2;tie 1 3;tie 2 3;");
        Edge.due("by two", y.run(0, 2), 15);
        Edge.due("four steps", y.seed(1), (int) next(1, 4));
        // as long as he doesn't know, a TIE takes a step each DAY
        HushTables z = Edge.of("people 2;tie 0 1 odds 1;");
        int seed = seedOf(1, false);
        z.seed(seed);
        Edge.due("not told on DAY 0", z.run(0, 1), 1);
        Edge.due("one step", z.seed(1), (int) next(seed));
    }

    private static void nextZ() {
        HushTables x = Edge.chain(2);
        for (int z : new int[] {0, 1, -1, 2, Edge.LOW, Edge.HIGH, 12345, -1103515245}) {
            x.seed(z);
            x.run(0, 1);
            Edge.due("z behind " + z, x.seed(1), (int) next(z));
        }
        HushTables y = Edge.of("people 2;tie 0 1 odds 1;");
        Edge.due("1 at first", y.seed(1), 1);
    }

    /** A seed whose next z gives this rest by 4, below 0 as an int or not. */
    private static int seedOf(int rest, boolean below) {
        for (int seed = 1; seed < 100000; seed++) {
            long z = next(seed);
            if ((z >> 16) % 4 == rest && (int) z < 0 == below) {
                return seed;
            }
        }
        return 0;
    }

    private static void lessThanOdds() {
        for (int odds = 1; odds <= 4; odds++) {
            HushTables x = Edge.of("people 2;tie 0 1 odds " + odds + ";");
            for (int rest = 0; rest < 4; rest++) {
                for (boolean below : new boolean[] {false, true}) {
                    x.seed(seedOf(rest, below));
                    String what = "odds " + odds + ", rest " + rest + (below ? ", z below 0" : "");
                    Edge.due(what, x.run(0, 1), rest < odds ? 3 : 1);
                }
            }
        }
    }

    private static void runDays() {
        HushTables x = Edge.chain(10);
        Edge.row("run(0, #)", days -> x.run(0, days), 1, 3, 7, 15, 31, 63, 127, 255, 511, 1023);
        Edge.due("20", x.run(9, 20), 1023);
        x.seed(44);
        Edge.due("0", x.run(9, 0), 512);
        Edge.due("without a step", x.seed(1), 44);
        // a run begins anew with one who knows, and on DAY 0
        x.cut(4, 0, 1);
        Edge.due("on DAY 0 again", x.run(0, 1), 3);
        Edge.due("and again", x.run(0, 1), 3);
    }

    private static void runBad() {
        HushTables x = Edge.chain(5);
        x.seed(44);
        Edge.each("run(#, 1)", -1, p -> x.run(p, 1), -1, 5, 10, Edge.LOW, Edge.HIGH);
        Edge.each("run(0, #)", -1, days -> x.run(0, days), -1, 21, Edge.LOW, Edge.HIGH);
        Edge.due("without a step", x.seed(1), 44);
    }

    // ---------------------------------------------------------------- guards

    private static void guards(HushTables x, String what, int from, long end, long whom) {
        Edge.due(what + ", guards(" + from + ", 0)", x.guards(from, 0), end);
        Edge.due(what + ", guards(" + from + ", 1)", x.guards(from, 1), whom);
    }

    private static void asLongAsSomebody() {
        HushTables x = Edge.of("people 3;tie 0 1;late 0 1;");
        guards(x, "OPEN on DAY 0", 0, 1, 1);
        x.cut(4, 0, 0);
        guards(x, "cut from DAY 0 on", 0, 1, -9);
        // when 1 is away, 2 is no longer near one who knows
        guards(Edge.chain(3), "one is enough", 0, 1, 1);
    }

    private static void awayForGood() {
        // who is away isn't told, and tells nobody: 1 away, 2 told, then 3, 4 (by 2 alone) are told or sent
        HushTables x = Edge.of("people 5;tie 0 1;tie 0 2;tie 1 3;tie 2 4;tie 1 4;");
        guards(x, "1 goes, 2 is told, 4 goes", 0, 2, 1);
        // one who isn't yet near may go first: 1 and 4 stand behind both 2 and 3
        HushTables y = Edge.of("people 8;tie 0 2;tie 0 3;tie 2 1;tie 2 4;tie 3 1;tie 3 4;tie 1 5;tie 1 6;tie 4 7;"
                + "tie 4 5;");
        guards(y, "far off first", 0, 3, 1);
        // 3 goes, 1 is told, then 0 goes: else 0, or one of 4 and 5 is told, too
        HushTables z = Edge.of("people 6;tie 2 3;tie 3 4;tie 3 5;tie 2 1;tie 1 0;");
        guards(z, "the least one goes second", 2, 2, 3);
    }

    private static void leastInTheEnd() {
        guards(Edge.chain(8), "a chain", 0, 1, 1);
        guards(Edge.chain(8), "a chain from within", 3, 2, 2);
        guards(Edge.star(8, 1), "a star", 0, 7, 1);
        guards(Edge.star(8, 1), "a star from its rim", 7, 1, 0);
        guards(new HushTables(), "one alone", 0, 1, -9);
    }

    private static void guardsOfSeveral() {
        HushTables x = Edge.of("people 4;tie 2 3;tie 2 1;tie 2 0;");
        guards(x, "three alike", 2, 3, 0);
        // 1 and 3 end alike, 0 doesn't
        HushTables y = Edge.of("people 5;tie 2 1;tie 2 3;tie 1 0;tie 3 4;");
        guards(y, "two alike", 2, 2, 1);
    }

    private static void nobodyNeedBe() {
        guards(Edge.of(8), "no TIES", 7, 1, -9);
        guards(cutAllOf(Edge.chain(8)), "all cut", 0, 1, -9);
        HushTables x = Edge.of("people 3;tie 1 2;");
        guards(x, "TIES of others", 0, 1, -9);
        guards(x, "one of his own", 1, 1, 2);
    }

    private static HushTables cutAllOf(HushTables x) {
        x.cut(5, 255, 0);
        return x;
    }

    private static void guardsBad() {
        HushTables x = Edge.chain(5);
        Edge.each("guards(#, 0)", -1, p -> x.guards(p, 0), -1, 5, 10, Edge.LOW, Edge.HIGH);
        Edge.each("guards(0, #)", -1, what -> x.guards(0, what), -1, 2, Edge.LOW, Edge.HIGH);
    }

    private static void guardsState() {
        Edge.due("eight", Edge.chain(8).guards(7, 0), 1);
        for (int n = 9; n <= 10; n++) {
            HushTables x = Edge.of(n);
            Edge.each("of " + n + ", guards(0, #)", -4, what -> x.guards(0, what), 0, 1);
        }
    }

    // ---------------------------------------------------------------- rows

    private static void rowIs(HushTables x, int i, int day, int from, int to) {
        Edge.due("row(" + i + ", 0)", x.row(i, 0), day);
        Edge.due("row(" + i + ", 1)", x.row(i, 1), from);
        Edge.due("row(" + i + ", 2)", x.row(i, 2), to);
    }

    private static void earlyLessOne() {
        HushTables x = Edge.chain(10);
        x.prove(0, 9);
        rowIs(x, 8, 8, 8, 9);
        x.prove(0, 1);
        rowIs(x, 0, 0, 0, 1);
        x.prove(9, 7);
        rowIs(x, 1, 1, 8, 7);
    }

    private static void leastPerson() {
        HushTables x = Edge.of("people 5;tie 0 4;tie 0 2;tie 0 1;tie 4 3;tie 2 3;tie 1 3;");
        x.prove(0, 3);
        rowIs(x, 1, 1, 1, 3);
        // 1 has no TIE that is OPEN on DAY 1
        x.cut(4, 5, 1);
        x.prove(0, 3);
        rowIs(x, 1, 1, 2, 3);
        x.cut(1, 4, 0);
        x.prove(0, 3);
        rowIs(x, 1, 1, 4, 3);
        // a lesser one who knows only later doesn't count: 1 is told on DAY 1, as 3 is
        HushTables y = Edge.of("people 5;tie 0 2;tie 2 1;tie 2 3;tie 1 3;");
        y.prove(0, 3);
        rowIs(y, 1, 1, 2, 3);
    }

    private static void toTheOneWhoKnew() {
        HushTables x = Edge.of("people 6;tie 0 3;tie 0 2;tie 3 1;tie 2 1;tie 1 5;tie 1 4;tie 5 4;");
        Edge.due("three", x.prove(0, 4), 3);
        rowIs(x, 0, 0, 0, 2);
        rowIs(x, 1, 1, 2, 1);
        rowIs(x, 2, 2, 1, 4);
        Edge.due("to himself none", x.prove(4, 4), 0);
        Edge.due("no ROWS", x.many(4), 0);
    }

    /** ROWS of 0 to 3 in a chain of five whose TIE 1 is cut from DAY 9 on. */
    private static HushTables proved() {
        HushTables x = Edge.chain(5);
        x.cut(4, 1, 9);
        x.prove(0, 3);
        return x;
    }

    private static void dayOfARow() {
        HushTables x = Edge.chain(2);
        x.prove(0, 1);
        for (int day : new int[] {0, 1, 98, 99}) {
            x.alterRow(0, 0, day);
            Edge.due("DAY " + day, x.judge(0, 1), 0);
        }
        for (int day : new int[] {-1, 100, 101, Edge.LOW, Edge.HIGH}) {
            x.alterRow(0, 0, day);
            Edge.due("DAY " + day, x.judge(0, 1), 1);
        }
    }

    private static void aboveTheDayAhead() {
        HushTables x = proved();
        x.alterRow(1, 0, 0);
        Edge.due("the same DAY", x.judge(0, 3), 2);
        x.alterRow(0, 0, 5);
        x.alterRow(1, 0, 4);
        x.alterRow(2, 0, 6);
        Edge.due("a DAY below", x.judge(0, 3), 2);
        x.alterRow(1, 0, 6);
        Edge.due("the next ROW is of the same DAY", x.judge(0, 3), 3);
        x.alterRow(2, 0, 7);
        Edge.due("each one above", x.judge(0, 3), 0);
        x.alterRow(2, 0, 99);
        Edge.due("far above", x.judge(0, 3), 0);
        x.alterRow(2, 0, 100);
        Edge.due("above all DAYS", x.judge(0, 3), 3);
    }

    private static void fromWhom() {
        HushTables x = proved();
        Edge.due("another one knew", x.judge(1, 3), 1);
        x.alterRow(0, 1, 2);
        Edge.due("the first is FROM another one", x.judge(0, 3), 1);
        x.alterRow(0, 1, 0);
        x.alterRow(1, 1, 3);
        Edge.due("3-2 is a TIE, but 3 doesn't know", x.judge(0, 3), 2);
        x.alterRow(1, 1, 1);
        x.alterRow(2, 1, 4);
        Edge.due("4-3 is a TIE, but 4 doesn't know", x.judge(0, 3), 3);
        x.alterRow(2, 1, 2);
        Edge.due("as it was", x.judge(0, 3), 0);
        x.alterRow(0, 1, Edge.LOW);
        Edge.due("FROM nobody", x.judge(0, 3), 1);
    }

    private static void tieOfARow() {
        HushTables x = proved();
        x.alterRow(1, 0, 8);
        x.alterRow(2, 0, 9);
        Edge.due("TIE 1 is OPEN on DAY 8", x.judge(0, 3), 0);
        x.alterRow(1, 0, 9);
        x.alterRow(2, 0, 10);
        Edge.due("TIE 1 isn't OPEN on DAY 9", x.judge(0, 3), 2);
        x.alterRow(1, 0, 1);
        x.alterRow(0, 2, 2);
        Edge.due("0 and 2 have no TIE", x.judge(0, 3), 1);
        for (int to : new int[] {0, -1, 5, 10, Edge.LOW, Edge.HIGH}) {
            x.alterRow(0, 2, to);
            Edge.due("TO " + to, x.judge(0, 3), 1);
        }
        x.alterRow(0, 2, 1);
        Edge.due("as it was", x.judge(0, 3), 0);
        x.cut(1, 0, 0);
        Edge.due("TIE 0 is cut now", x.judge(0, 3), 1);
    }

    private static void anotherEnd() {
        HushTables x = proved();
        Edge.each("the last one tells 3, judge(0, #)", 222, to -> x.judge(0, to), 0, 1, 2, 4);
        Edge.due("a ROW that isn't right is ahead of it", x.judge(1, 4), 1);
        x.alterRow(2, 2, 1);
        Edge.due("2 tells 1, who knew: it is right, and the end is 1", x.judge(0, 1), 0);
        Edge.due("the end is no longer 3", x.judge(0, 3), 222);
        HushTables none = Edge.chain(3);
        Edge.due("no ROWS, unlike", none.judge(0, 1), 222);
        Edge.due("no ROWS, the same", none.judge(1, 1), 0);
    }

    private static void howManyRows() {
        HushTables x = Edge.chain(10);
        Edge.row("prove(0, #)", to -> x.prove(0, to), 0, 1, 2, 3, 4, 5, 6, 7, 8, 9);
        Edge.due("ROWS", x.many(4), 9);
        Edge.due("fewer then", x.prove(0, 2), 2);
        Edge.due("those of the longer ones are gone", x.row(2, 0), -9);
        Edge.due("of himself", x.prove(5, 5), 0);
        Edge.due("no ROWS", x.many(4), 0);
    }

    private static void proveBad() {
        HushTables x = Edge.chain(5);
        x.prove(0, 4);
        Edge.each("prove(#, 0)", -1, p -> x.prove(p, 0), -1, 5, 10, Edge.LOW, Edge.HIGH);
        Edge.each("prove(0, #)", -1, p -> x.prove(0, p), -1, 5, 10, Edge.LOW, Edge.HIGH);
        Edge.due("ROWS stay", x.many(4), 4);
    }

    private static void proveNone() {
        HushTables x = Edge.of("people 4;tie 0 1;tie 1 2;late 1 1;");
        x.prove(2, 0);
        Edge.due("a DAY too late", x.prove(0, 2), -3);
        Edge.due("no TIE", x.prove(0, 3), -3);
        Edge.due("ROWS stay", x.many(4), 2);
        rowIs(x, 0, 0, 2, 1);
        rowIs(x, 1, 1, 1, 0);
    }

    private static void rowWhat() {
        HushTables x = Edge.chain(10);
        x.prove(9, 0);
        for (int i = 0; i < 9; i++) {
            rowIs(x, i, i, 9 - i, 8 - i);
        }
    }

    private static void rowNone() {
        HushTables none = Edge.chain(3);
        Edge.due("no ROWS yet", none.row(0, 0), -9);
        HushTables x = Edge.chain(10);
        x.prove(0, 9);
        Edge.each("row(#, 0)", -9, i -> x.row(i, 0), -1, 9, 10, Edge.LOW, Edge.HIGH);
        Edge.each("row(0, #)", -9, what -> x.row(0, what), -1, 3, Edge.LOW, Edge.HIGH);
        x.prove(0, 3);
        Edge.each("row(#, 0), of three", -9, i -> x.row(i, 0), 3, 8);
        x.alterRow(0, 0, -9);
        Edge.due("a ROW may hold it, too", x.row(0, 0), -9);
    }

    private static void alterWas() {
        HushTables x = proved();
        for (int what = 0; what < 3; what++) {
            int was = x.row(2, what);
            Edge.due("alterRow(2, " + what + ", LOW)", x.alterRow(2, what, Edge.LOW), was);
            Edge.due("alterRow(2, " + what + ", HIGH)", x.alterRow(2, what, Edge.HIGH), Edge.LOW);
            Edge.due("row(2, " + what + ")", x.row(2, what), Edge.HIGH);
        }
        rowIs(x, 1, 1, 1, 2);
        Edge.due("ROWS", x.many(4), 3);
    }

    private static void alterNone() {
        Edge.due("no ROWS yet", Edge.chain(3).alterRow(0, 0, 1), -9);
        HushTables x = Edge.chain(10);
        x.prove(0, 9);
        Edge.each("alterRow(#, 0, 7)", -9, i -> x.alterRow(i, 0, 7), -1, 9, 10, Edge.LOW, Edge.HIGH);
        Edge.each("alterRow(0, #, 7)", -9, what -> x.alterRow(0, what, 7), -1, 3, Edge.LOW, Edge.HIGH);
        rowIs(x, 0, 0, 0, 1);
        rowIs(x, 8, 8, 8, 9);
    }

    private static void judgeRight() {
        HushTables x = Edge.chain(10);
        for (int to = 0; to < 10; to++) {
            x.prove(4, to);
            Edge.due("judge(4, " + to + ")", x.judge(4, to), 0);
        }
        Edge.due("no ROWS, the same", new HushTables().judge(0, 0), 0);
    }

    private static void judgeFirst() {
        HushTables x = Edge.chain(10);
        x.prove(0, 9);
        for (int i = 8; i >= 0; i--) {
            x.alterRow(i, 0, 100);
            Edge.due("ROW " + i + " isn't right", x.judge(0, 9), i + 1);
        }
        Edge.due("ahead of 222", x.judge(0, 5), 1);
    }

    private static void judge222() {
        HushTables x = Edge.chain(10);
        x.prove(0, 8);
        Edge.each("judge(0, #)", 222, to -> x.judge(0, to), 0, 7, 9);
        Edge.due("no ROWS", Edge.chain(2).judge(1, 0), 222);
    }

    private static void judgeBad() {
        HushTables x = Edge.chain(5);
        x.prove(0, 4);
        Edge.each("judge(#, 4)", -1, p -> x.judge(p, 4), -1, 5, 10, Edge.LOW, Edge.HIGH);
        Edge.each("judge(0, #)", -1, p -> x.judge(0, p), -1, 5, 10, Edge.LOW, Edge.HIGH);
    }
}
