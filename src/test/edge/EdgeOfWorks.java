/** A WORKS and its CUTS: Promises 1 and 4 to 13. */
final class EdgeOfWorks {
    private static final int TIE = 1, TABLE = 2, SHIFT = 3, LATE = 4, SEAT = 5, TOLD = 6;

    private EdgeOfWorks() {
    }

    static void all() {
        termsOfWorks();
        termsOfCuts();
        works();
        cuts();
    }

    private static void termsOfWorks() {
        int t = Edge.TERMS;
        Edge.sentence(t, "A WORKS has PEOPLE 0, 1, .. (1 to 10; 1 at first)", EdgeOfWorks::oneToTenPeople);
        Edge.sentence(t, "Each has a WEIGHT (0 to 9; 1 at first)", EdgeOfWorks::weightsAtFirst);
        Edge.sentence(t, "TIES, 14 at most", EdgeOfWorks::fourteenTies);
        Edge.sentence(t, "numbered as they come: of two unlike PEOPLE", EdgeOfWorks::unlikePeople);
        Edge.sentence(t, "(of the same two one at most)", EdgeOfWorks::oneOfTheSameTwo);
        Edge.sentence(t, "a WORTH (0 to 99)", EdgeOfWorks::worthRange);
        Edge.sentence(t, "ODDS (1 to 4)", EdgeOfWorks::oddsRange);
        Edge.sentence(t, "MUST or not", EdgeOfWorks::mustOrNot);
    }

    private static void termsOfCuts() {
        int t = Edge.TERMS;
        Edge.sentence(t, "CUTS, 8 at most", EdgeOfWorks::eightCuts);
        Edge.sentence(t, "B (0 to 99; counts only of late)", EdgeOfWorks::rangeOfB);
        Edge.sentence(t, "a CUT is of KIND 1 to 6", EdgeOfWorks::kindsOfCuts);
        Edge.sentence(t, "Of tie and late A is a TIE", EdgeOfWorks::ofATie);
        Edge.sentence(t, "of others a set of PEOPLE (of none, too)", EdgeOfWorks::ofASet);
        Edge.sentence(t, "tie cuts the TIE A.", EdgeOfWorks::tieCuts);
        Edge.sentence(t, "late cuts the TIE A on DAYS from B on", EdgeOfWorks::lateCuts);
        Edge.sentence(t, "table cuts TIES with just one of their two in A, but none that MUST be",
                EdgeOfWorks::tableCuts);
        Edge.sentence(t, "shift cuts TIES with just one of their two in A", EdgeOfWorks::shiftCuts);
        Edge.sentence(t, "seat cuts TIES with one of their two or both in A", EdgeOfWorks::seatCuts);
        Edge.sentence(t, "told cuts TIES with both in A", EdgeOfWorks::toldCuts);
        Edge.sentence(t, "A TIE is OPEN on a DAY (0 to 99), if no CUT cuts it on that DAY", EdgeOfWorks::openOnADay);
        Edge.sentence(t, "PEOPLE are JOINED by ways of TIES that are OPEN on DAY 0", EdgeOfWorks::joinedByWays);
        Edge.sentence(t, "A JOINED set: all that are JOINED to one, with him", EdgeOfWorks::withHim);
    }

    private static void works() {
        Edge.sentence(1, "One PERSON, no TIES, no CUTS; nothing is kept", EdgeOfWorks::newObject);
        Edge.sentence(4, "A WORKS of n PEOPLE, with no TIES, no CUTS, WEIGHTS 1: n", EdgeOfWorks::newWorks);
        Edge.sentence(4, "Nothing is SEEN then, there are no ROWS (z stays)", EdgeOfWorks::nothingSeenThen);
        Edge.sentence(4, "BAD", EdgeOfWorks::peopleBad);
        Edge.sentence(5, "A TIE: its number", EdgeOfWorks::numberOfATie);
        Edge.sentence(5, "BAD: no such PEOPLE", EdgeOfWorks::tieNoSuchPeople);
        Edge.sentence(5, "the same ones", EdgeOfWorks::tieSameOnes);
        Edge.sentence(5, "another number", EdgeOfWorks::tieAnotherNumber);
        Edge.sentence(5, "FULL", EdgeOfWorks::tieFull);
        Edge.sentence(5, "STATE: there is a TIE of these two", EdgeOfWorks::tieState);
        Edge.sentence(6, "what = 0 the lesser one, 1 the greater one of its two, 2 WORTH, 3 ODDS, 4 MUST (1, else 0)",
                EdgeOfWorks::ofATieWhat);
        Edge.sentence(6, "BAD", EdgeOfWorks::tieOfBad);
        Edge.sentence(7, "WEIGHT of a PERSON becomes weight: what it was", EdgeOfWorks::weightWas);
        Edge.sentence(7, "BAD", EdgeOfWorks::firstBad);
    }

    private static void cuts() {
        Edge.sentence(8, "A CUT: its number", EdgeOfWorks::numberOfACut);
        Edge.sentence(8, "BAD;", EdgeOfWorks::cutBad);
        Edge.sentence(8, "FULL", EdgeOfWorks::cutFull);
        Edge.sentence(9, "what = 0 KIND, 1 A, 2 B", EdgeOfWorks::ofACutWhat);
        Edge.sentence(9, "BAD", EdgeOfWorks::cutOfBad);
        Edge.sentence(10, "The latest CUT is none any more: how many there are", EdgeOfWorks::latestIsNone);
        Edge.sentence(10, "NONE: there was none", EdgeOfWorks::uncutNone);
        Edge.sentence(11, "Whether a TIE is OPEN on a DAY: 1, 0", EdgeOfWorks::openOrNot);
        Edge.sentence(11, "BAD", EdgeOfWorks::openBad);
        Edge.sentence(12, "The JOINED set of a PERSON", EdgeOfWorks::joinedSets);
        Edge.sentence(12, "BAD", EdgeOfWorks::joinedBad);
        Edge.sentence(13, "how many (what 0), how many PEOPLE the greatest one has (1)", EdgeOfWorks::howManySets);
        Edge.sentence(13, "BAD", EdgeOfWorks::setsBad);
    }

    // ---------------------------------------------------------------- people and ties

    private static void oneToTenPeople() {
        HushTables x = new HushTables();
        Edge.due("1 at first", x.many(0), 1);
        for (int n = 1; n <= 10; n++) {
            Edge.due("people(" + n + ")", x.people(n), n);
            Edge.due("of " + n + " the last one", x.joined(n - 1), 1 << n - 1);
            Edge.due("of " + n + " one more", x.joined(n), -1);
        }
        Edge.each("people(#)", -1, n -> x.people(n), 0, 11);
    }

    private static void weightsAtFirst() {
        HushTables x = new HushTables();
        Edge.due("of a new object", x.first(0, 4), 1);
        x.people(10);
        for (int p = 0; p < 10; p++) {
            Edge.due("first(" + p + ", 9)", x.first(p, 9), 1);
            Edge.due("first(" + p + ", 0)", x.first(p, 0), 9);
            Edge.due("first(" + p + ", 3)", x.first(p, 3), 0);
        }
        Edge.each("first(0, #)", -1, weight -> x.first(0, weight), -1, 10);
    }

    private static void fourteenTies() {
        HushTables x = Edge.withTies(13);
        Edge.due("the fourteenth", x.tie(8, 9, 1, 4, false), 13);
        Edge.due("a fifteenth", x.tie(7, 9, 1, 4, false), -2);
        Edge.due("how many", x.many(1), 14);
        Edge.due("a fifteenth is none", x.tieOf(14, 0), -1);
        Edge.due("the fourteenth is one", x.tieOf(13, 1), 9);
    }

    private static void unlikePeople() {
        HushTables x = Edge.of(10);
        Edge.each("tie(#, #, ..)", -1, p -> x.tie(p, p, 1, 1, false), 0, 5, 9);
        Edge.due("the first that comes", x.tie(9, 0, 1, 1, false), 0);
        Edge.due("the second that comes", x.tie(0, 8, 1, 1, false), 1);
    }

    private static void oneOfTheSameTwo() {
        HushTables x = Edge.of(3);
        Edge.due("0 and 1", x.tie(0, 1, 1, 1, false), 0);
        Edge.due("0 and 1 again", x.tie(0, 1, 2, 2, true), -4);
        Edge.due("1 and 0", x.tie(1, 0, 2, 2, true), -4);
        Edge.row("the TIE stays, tieOf(0, #)", what -> x.tieOf(0, what), 0, 1, 1, 1, 0);
        x.cut(TIE, 0, 0);
        Edge.due("cut, it is a TIE all the same", x.tie(0, 1, 1, 1, false), -4);
        Edge.due("others of the two", x.tie(0, 2, 1, 1, false), 1);
    }

    private static void worthRange() {
        HushTables x = Edge.of(3);
        Edge.each("tie(0, 1, #, ..)", -1, worth -> x.tie(0, 1, worth, 4, false), -1, 100, Edge.LOW, Edge.HIGH);
        Edge.due("0", x.tie(0, 1, 0, 4, false), 0);
        Edge.due("99", x.tie(0, 2, 99, 4, false), 1);
        Edge.due("it is 0", x.tieOf(0, 2), 0);
        Edge.due("it is 99", x.tieOf(1, 2), 99);
    }

    private static void oddsRange() {
        HushTables x = Edge.of(3);
        Edge.each("tie(0, 1, 1, #, ..)", -1, odds -> x.tie(0, 1, 1, odds, false), -1, 0, 5, Edge.LOW, Edge.HIGH);
        Edge.due("1", x.tie(0, 1, 1, 1, false), 0);
        Edge.due("4", x.tie(0, 2, 1, 4, false), 1);
        Edge.due("it is 1", x.tieOf(0, 3), 1);
        Edge.due("it is 4", x.tieOf(1, 3), 4);
    }

    private static void mustOrNot() {
        HushTables x = Edge.of(3);
        x.tie(0, 1, 1, 1, true);
        x.tie(0, 2, 1, 1, false);
        Edge.due("MUST", x.tieOf(0, 4), 1);
        Edge.due("not", x.tieOf(1, 4), 0);
        // a TIE of the same number in another works
        x.people(3);
        x.tie(0, 1, 1, 1, false);
        Edge.due("not, any more", x.tieOf(0, 4), 0);
    }

    // ---------------------------------------------------------------- kinds of cuts

    private static void eightCuts() {
        HushTables x = Edge.withCuts(7);
        Edge.due("the eighth", x.cut(SEAT, 1, 0), 7);
        Edge.due("a ninth", x.cut(SEAT, 2, 0), -2);
        Edge.due("how many", x.many(2), 8);
        Edge.due("a ninth is none", x.cutOf(8, 0), -1);
        Edge.due("the eighth is one", x.cutOf(7, 0), 5);
    }

    private static void rangeOfB() {
        for (int kind = TIE; kind <= TOLD; kind++) {
            HushTables x = Edge.of("people 3;tie 0 1;");
            int k = kind;
            Edge.each("cut(" + k + ", 0, #)", -1, b -> x.cut(k, 0, b), -1, 100, Edge.LOW, Edge.HIGH);
            Edge.due("0", x.cut(k, 0, 0), 0);
            Edge.due("99", x.cut(k, 0, 99), 1);
            Edge.due("it is 99", x.cutOf(1, 2), 99);
        }
        // of others than late it counts nothing: they cut on all days
        int[] sets = {0, 0, 1, 1, 0, 1, 3};
        for (int kind : new int[] {TIE, TABLE, SHIFT, SEAT, TOLD}) {
            HushTables y = Edge.of("people 3;tie 0 1;");
            y.cut(kind, sets[kind], 50);
            Edge.each("KIND " + kind + ", open(0, #)", 0, day -> y.open(0, day), 0, 49, 50, 51, 99);
        }
    }

    private static void kindsOfCuts() {
        HushTables x = Edge.of("people 3;tie 0 1;");
        Edge.each("cut(#, 0, 0)", -1, kind -> x.cut(kind, 0, 0), 0, 7, -1, Edge.LOW, Edge.HIGH);
        for (int kind = TIE; kind <= TOLD; kind++) {
            Edge.due("cut(" + kind + ", 0, 0)", x.cut(kind, 0, 0), kind - 1);
            Edge.due("its KIND", x.cutOf(kind - 1, 0), kind);
        }
    }

    private static void ofATie() {
        for (int kind : new int[] {TIE, LATE}) {
            HushTables none = Edge.of(10);
            Edge.due("without TIES", none.cut(kind, 0, 0), -1);
            HushTables x = Edge.withTies(14);
            Edge.each("cut(" + kind + ", #, 0)", -1, a -> x.cut(kind, a, 0), -1, 14, Edge.LOW, Edge.HIGH);
            Edge.due("the first TIE", x.cut(kind, 0, 0), 0);
            Edge.due("the last TIE", x.cut(kind, 13, 0), 1);
        }
    }

    private static void ofASet() {
        for (int kind : new int[] {TABLE, SHIFT, SEAT, TOLD}) {
            HushTables x = Edge.of("people 3;tie 0 1;");
            Edge.each("cut(" + kind + ", #, 0)", -1, a -> x.cut(kind, a, 0), -1, 8, 9, 1 << 30, Edge.LOW, Edge.HIGH);
            Edge.due("of none", x.cut(kind, 0, 0), 0);
            Edge.due("of none cuts none", x.open(0, 0), 1);
            Edge.due("of all", x.cut(kind, 7, 0), 1);
            HushTables ten = Edge.of(10);
            Edge.due("of all ten", ten.cut(kind, 1023, 0), 0);
            Edge.due("of an eleventh", ten.cut(kind, 1024, 0), -1);
        }
    }

    /** Which TIES are OPEN on DAY 0, of 0-1, 1-2 (MUST), 2-3, 0-3 (MUST), behind one CUT. */
    private static void openBehind(int kind, int a, int want) {
        HushTables x = Edge.of("people 4;tie 0 1;tie 1 2 must;tie 2 3;tie 0 3 must;");
        x.cut(kind, a, 0);
        int got = 0;
        for (int tie = 0; tie < 4; tie++) {
            got |= x.open(tie, 0) << tie;
        }
        Edge.due("OPEN behind cut(" + kind + ", " + a + ", 0)", got, want);
    }

    private static void tieCuts() {
        openBehind(TIE, 0, 14);
        openBehind(TIE, 1, 13);
        openBehind(TIE, 2, 11);
        openBehind(TIE, 3, 7);
    }

    private static void lateCuts() {
        HushTables x = Edge.of("people 3;tie 0 1 must;tie 1 2;");
        x.cut(LATE, 0, 99);
        Edge.each("from 99 on, open(0, #)", 1, day -> x.open(0, day), 0, 1, 97, 98);
        Edge.due("on 99", x.open(0, 99), 0);
        x.cut(LATE, 0, 4);
        Edge.each("from 4 on, open(0, #)", 1, day -> x.open(0, day), 0, 3);
        Edge.each("from 4 on, cut, open(0, #)", 0, day -> x.open(0, day), 4, 5, 98, 99);
        x.cut(LATE, 0, 5);
        Edge.due("a later one opens nothing", x.open(0, 4), 0);
        x.cut(LATE, 0, 0);
        Edge.due("from 0 on", x.open(0, 0), 0);
        Edge.each("the other TIE, open(1, #)", 1, day -> x.open(1, day), 0, 99);
    }

    private static void tableCuts() {
        openBehind(TABLE, 0, 15);
        openBehind(TABLE, 1, 14);
        openBehind(TABLE, 2, 14);
        openBehind(TABLE, 3, 15);
        openBehind(TABLE, 5, 10);
        openBehind(TABLE, 9, 10);
        openBehind(TABLE, 15, 15);
    }

    private static void shiftCuts() {
        openBehind(SHIFT, 0, 15);
        openBehind(SHIFT, 1, 6);
        openBehind(SHIFT, 3, 5);
        openBehind(SHIFT, 5, 0);
        openBehind(SHIFT, 9, 10);
        openBehind(SHIFT, 15, 15);
    }

    private static void seatCuts() {
        openBehind(SEAT, 0, 15);
        openBehind(SEAT, 1, 6);
        openBehind(SEAT, 3, 4);
        openBehind(SEAT, 5, 0);
        openBehind(SEAT, 15, 0);
    }

    private static void toldCuts() {
        openBehind(TOLD, 0, 15);
        openBehind(TOLD, 1, 15);
        openBehind(TOLD, 3, 14);
        openBehind(TOLD, 5, 15);
        openBehind(TOLD, 7, 12);
        openBehind(TOLD, 15, 0);
    }

    private static void openOnADay() {
        HushTables x = Edge.of("people 3;tie 0 1;");
        Edge.each("without CUTS, open(0, #)", 1, day -> x.open(0, day), 0, 50, 99);
        x.cut(LATE, 0, 7);
        x.cut(SEAT, 4, 0);
        Edge.due("a CUT of others", x.open(0, 6), 1);
        Edge.due("one of two is enough", x.open(0, 7), 0);
        Edge.each("open(0, #)", -1, day -> x.open(0, day), -1, 100);
        x.uncut();
        x.uncut();
        Edge.due("OPEN again", x.open(0, 99), 1);
    }

    private static void joinedByWays() {
        HushTables x = Edge.chain(10);
        Edge.due("by nine TIES", x.joined(9), 1023);
        x.cut(LATE, 4, 1);
        Edge.due("cut from DAY 1 on: JOINED", x.joined(9), 1023);
        x.cut(LATE, 4, 0);
        Edge.due("cut from DAY 0 on: not", x.joined(9), 992);
        Edge.due("the others", x.joined(0), 31);
    }

    private static void withHim() {
        HushTables x = Edge.of("people 4;tie 1 3;");
        Edge.row("joined(#)", p -> x.joined(p), 1, 10, 4, 10);
        Edge.due("of a new object", new HushTables().joined(0), 1);
    }

    // ---------------------------------------------------------------- promises 1, 4 to 7

    private static void newObject() {
        HushTables x = new HushTables();
        Edge.row("many(#)", what -> x.many(what), 1, 0, 0, 0, 0, 0, 0, 0);
        Edge.due("back()", x.back(), -3);
        Edge.due("tieOf(0, 0)", x.tieOf(0, 0), -1);
        Edge.due("cutOf(0, 0)", x.cutOf(0, 0), -1);
        Edge.due("seed(5)", x.seed(5), 1);
        Edge.due("first(0, 1)", x.first(0, 1), 1);
        Edge.due("seen(0, -1)", x.seen(0, -1), -9);
        Edge.due("joined(1)", x.joined(1), -1);
        // another object's works is not this one's
        HushTables y = Edge.withTies(14);
        y.keep();
        HushTables z = new HushTables();
        Edge.row("many(#), of a third", what -> z.many(what), 1, 0, 0, 0, 0, 0, 0, 0);
        Edge.due("back(), of a third", z.back(), -3);
    }

    private static void newWorks() {
        HushTables x = Edge.of("people 10;tie 0 9;tie 0 1 odds 1;seat 0;first 0 weight 5;first 9 weight 0;");
        Edge.due("people(1)", x.people(1), 1);
        Edge.due("no TIES", x.many(1), 0);
        Edge.due("no CUTS", x.many(2), 0);
        Edge.due("none UNSURE", x.many(7), 0);
        Edge.due("WEIGHT of 0", x.first(0, 1), 1);
        Edge.due("people(10)", x.people(10), 10);
        Edge.due("WEIGHT of 9", x.first(9, 1), 1);
        Edge.due("not even joined", x.joined(0), 1);
    }

    private static void nothingSeenThen() {
        HushTables x = Edge.chain(3);
        x.seen(2, 1);
        x.prove(0, 2);
        x.seed(Edge.LOW);
        Edge.due("refused", x.people(11), -1);
        Edge.due("still SEEN", x.many(3), 1);
        Edge.due("still ROWS", x.many(4), 2);
        Edge.due("the same number of PEOPLE", x.people(3), 3);
        Edge.due("nothing is SEEN", x.many(3), 0);
        Edge.due("SEEN of 2", x.seen(2, -1), -9);
        Edge.due("no ROWS", x.many(4), 0);
        Edge.due("row(0, 0)", x.row(0, 0), -9);
        Edge.due("z stays", x.seed(1), Edge.LOW);
    }

    private static void peopleBad() {
        HushTables x = Edge.chain(4);
        Edge.each("people(#)", -1, n -> x.people(n), 0, 11, -1, 32, 33, Edge.LOW, Edge.HIGH);
        Edge.due("the works stays", x.many(1), 3);
    }

    private static void numberOfATie() {
        HushTables x = Edge.of(10);
        for (int i = 0; i < 9; i++) {
            Edge.due("TIE " + i, x.tie(i, i + 1, 1, 1, false), i);
        }
        x.people(2);
        Edge.due("the first of a new works", x.tie(0, 1, 1, 1, false), 0);
    }

    private static void tieNoSuchPeople() {
        HushTables x = Edge.of(5);
        Edge.each("tie(#, 1, ..)", -1, p -> x.tie(p, 1, 1, 1, false), -1, 5, 10, 33, Edge.LOW, Edge.HIGH);
        Edge.each("tie(1, #, ..)", -1, p -> x.tie(1, p, 1, 1, false), -1, 5, 10, 33, Edge.LOW, Edge.HIGH);
        Edge.due("the last one", x.tie(4, 0, 1, 1, false), 0);
    }

    private static void tieSameOnes() {
        HushTables x = Edge.of(5);
        Edge.each("tie(#, #, ..)", -1, p -> x.tie(p, p, 1, 1, false), 0, 4);
        Edge.due("none came", x.many(1), 0);
    }

    private static void tieAnotherNumber() {
        HushTables x = Edge.of(5);
        Edge.each("tie(0, 1, #, ..)", -1, worth -> x.tie(0, 1, worth, 1, true), -1, 100);
        Edge.each("tie(0, 1, 1, #, ..)", -1, odds -> x.tie(0, 1, 1, odds, true), 0, 5);
        Edge.due("none came", x.many(1), 0);
    }

    private static void tieFull() {
        HushTables x = Edge.withTies(14);
        Edge.due("a fifteenth", x.tie(8, 9, 1, 1, false), -2);
        Edge.due("how many", x.many(1), 14);
        x.people(10);
        Edge.due("a new works is not full", x.tie(8, 9, 1, 1, false), 0);
    }

    private static void tieState() {
        HushTables x = Edge.withTies(13);
        Edge.due("there is one, not yet full", x.tie(1, 0, 1, 1, false), -4);
        Edge.due("the thirteenth", x.tie(5, 1, 1, 1, false), -4);
        Edge.due("another one", x.tie(9, 8, 1, 1, false), 13);
    }

    private static void ofATieWhat() {
        HushTables x = Edge.of(10);
        x.tie(9, 0, 99, 1, true);
        x.tie(3, 4, 0, 4, false);
        Edge.row("tieOf(0, #)", what -> x.tieOf(0, what), 0, 9, 99, 1, 1);
        Edge.row("tieOf(1, #)", what -> x.tieOf(1, what), 3, 4, 0, 4, 0);
    }

    private static void tieOfBad() {
        Edge.due("no TIES", Edge.of(3).tieOf(0, 0), -1);
        HushTables x = Edge.withTies(14);
        Edge.each("tieOf(#, 0)", -1, tie -> x.tieOf(tie, 0), -1, 14, Edge.LOW, Edge.HIGH);
        Edge.each("tieOf(0, #)", -1, what -> x.tieOf(0, what), -1, 5, Edge.LOW, Edge.HIGH);
        HushTables y = Edge.withTies(14);
        y.people(10);
        Edge.due("those of the works ahead are none", y.tieOf(0, 0), -1);
    }

    private static void weightWas() {
        HushTables x = Edge.of(10);
        Edge.due("1 at first", x.first(9, 0), 1);
        Edge.due("0", x.first(9, 9), 0);
        Edge.due("9", x.first(9, 9), 9);
        Edge.due("that of another one", x.first(8, 2), 1);
    }

    private static void firstBad() {
        HushTables x = Edge.of(5);
        Edge.each("first(#, 1)", -1, p -> x.first(p, 1), -1, 5, 10, Edge.LOW, Edge.HIGH);
        Edge.each("first(4, #)", -1, weight -> x.first(4, weight), -1, 10, Edge.LOW, Edge.HIGH);
        Edge.due("it is as it was", x.first(4, 1), 1);
    }

    // ---------------------------------------------------------------- promises 8 to 13

    private static void numberOfACut() {
        HushTables x = Edge.withCuts(0);
        for (int i = 0; i < 8; i++) {
            Edge.due("CUT " + i, x.cut(TOLD, i, i), i);
        }
        x.uncut();
        Edge.due("the number that is free again", x.cut(TIE, 0, 0), 7);
        x.people(2);
        Edge.due("the first of a new works", x.cut(SEAT, 3, 0), 0);
    }

    private static void cutBad() {
        HushTables x = Edge.of("people 3;tie 0 1;");
        Edge.each("cut(#, 0, 0)", -1, kind -> x.cut(kind, 0, 0), -1, 0, 7);
        Edge.each("cut(1, #, 0)", -1, a -> x.cut(TIE, a, 0), -1, 1);
        Edge.each("cut(4, #, 0)", -1, a -> x.cut(LATE, a, 0), -1, 1);
        Edge.each("cut(2, #, 0)", -1, a -> x.cut(TABLE, a, 0), -1, 8);
        Edge.each("cut(4, 0, #)", -1, b -> x.cut(LATE, 0, b), -1, 100);
        Edge.each("cut(2, 0, #)", -1, b -> x.cut(TABLE, 0, b), -1, 100);
        Edge.due("none came", x.many(2), 0);
    }

    private static void cutFull() {
        HushTables x = Edge.withCuts(8);
        Edge.due("a ninth", x.cut(TIE, 0, 0), -2);
        x.uncut();
        Edge.due("there is room again", x.cut(TIE, 0, 0), 7);
    }

    private static void ofACutWhat() {
        HushTables x = Edge.withTies(14);
        x.cut(LATE, 13, 99);
        x.cut(TOLD, 1023, 0);
        Edge.row("cutOf(0, #)", what -> x.cutOf(0, what), 4, 13, 99);
        Edge.row("cutOf(1, #)", what -> x.cutOf(1, what), 6, 1023, 0);
    }

    private static void cutOfBad() {
        Edge.due("no CUTS", Edge.of(3).cutOf(0, 0), -1);
        HushTables x = Edge.withCuts(8);
        Edge.each("cutOf(#, 0)", -1, cut -> x.cutOf(cut, 0), -1, 8, Edge.LOW, Edge.HIGH);
        Edge.each("cutOf(0, #)", -1, what -> x.cutOf(0, what), -1, 3, Edge.LOW, Edge.HIGH);
    }

    private static void latestIsNone() {
        HushTables x = Edge.withCuts(6);
        x.cut(SEAT, 1, 2);
        x.cut(TIE, 0, 3);
        Edge.due("seven are left", x.uncut(), 7);
        Edge.due("the last one is none", x.cutOf(7, 0), -1);
        Edge.due("the one ahead is there", x.cutOf(6, 0), 5);
        for (int left = 6; left >= 0; left--) {
            Edge.due("left", x.uncut(), left);
        }
        Edge.due("OPEN again", x.open(0, 0), 1);
    }

    private static void uncutNone() {
        HushTables x = new HushTables();
        Edge.due("of a new object", x.uncut(), -3);
        HushTables y = Edge.withCuts(1);
        Edge.due("the only one", y.uncut(), 0);
        Edge.due("none is left", y.uncut(), -3);
        Edge.due("and none again", y.uncut(), -3);
        Edge.due("how many", y.many(2), 0);
        Edge.due("then one may come", y.cut(TIE, 0, 0), 0);
        y.people(3);
        Edge.due("none in a new works", y.uncut(), -3);
    }

    private static void openOrNot() {
        HushTables x = Edge.withTies(14);
        Edge.due("the first TIE, the first DAY", x.open(0, 0), 1);
        Edge.due("the last TIE, the last DAY", x.open(13, 99), 1);
        x.cut(TIE, 13, 0);
        Edge.due("cut", x.open(13, 99), 0);
        Edge.due("the one ahead", x.open(12, 99), 1);
        // the last CUT of eight counts like the others
        HushTables y = Edge.withCuts(7);
        y.cut(SEAT, 2, 0);
        Edge.due("by the eighth CUT", y.open(0, 0), 0);
    }

    private static void openBad() {
        Edge.due("no TIES", Edge.of(3).open(0, 0), -1);
        HushTables x = Edge.withTies(14);
        Edge.each("open(#, 0)", -1, tie -> x.open(tie, 0), -1, 14, Edge.LOW, Edge.HIGH);
        Edge.each("open(0, #)", -1, day -> x.open(0, day), -1, 100, Edge.LOW, Edge.HIGH);
    }

    private static void joinedSets() {
        HushTables x = Edge.of("people 10;tie 0 9;tie 9 4;tie 4 7;tie 1 2;");
        int set = 1 | 1 << 9 | 1 << 4 | 1 << 7;
        Edge.row("joined(#)", p -> x.joined(p), set, 6, 6, 8, set, 32, 64, set, 256, set);
    }

    private static void joinedBad() {
        HushTables x = Edge.of(5);
        Edge.each("joined(#)", -1, p -> x.joined(p), -1, 5, 10, 32, Edge.LOW, Edge.HIGH);
        Edge.due("the last one", x.joined(4), 16);
    }

    private static void howManySets() {
        HushTables one = new HushTables();
        Edge.row("of one, sets(#)", what -> one.sets(what), 1, 1);
        HushTables apart = Edge.of(10);
        Edge.row("of ten apart, sets(#)", what -> apart.sets(what), 10, 1);
        HushTables chain = Edge.chain(10);
        Edge.row("of ten JOINED, sets(#)", what -> chain.sets(what), 1, 10);
        HushTables some = Edge.of("people 10;tie 8 9;tie 7 8;tie 0 1;");
        Edge.row("of some, sets(#)", what -> some.sets(what), 7, 3);
        some.cut(LATE, 0, 1);
        Edge.due("late from DAY 1", some.sets(1), 3);
        some.cut(LATE, 0, 0);
        Edge.row("late from DAY 0, sets(#)", what -> some.sets(what), 8, 2);
    }

    private static void setsBad() {
        HushTables x = Edge.of(5);
        Edge.each("sets(#)", -1, what -> x.sets(what), -1, 2, Edge.LOW, Edge.HIGH);
    }
}
