import java.util.function.Supplier;
import java.util.function.ToLongFunction;

/** Refusals, their order, and what the document says of all calls. */
final class EdgeOfTerms {
    private EdgeOfTerms() {
    }

    static void all() {
        Edge.sentence(Edge.TERMS, "An object is used for at most 512 calls after it has been made",
                EdgeOfTerms::fiveHundredTwelveCalls);
        Edge.sentence(Edge.TERMS, "BAD = -1, FULL = -2, NONE = -3, STATE = -4", EdgeOfTerms::constants);
        Edge.sentence(Edge.TERMS, "Answers below 0, where not told otherwise, are refusals",
                EdgeOfTerms::belowZeroAndNoRefusals);
        Edge.sentence(Edge.TERMS, "such a call changes nothing", EdgeOfTerms::refusedChangesNothing);
        Edge.sentence(Edge.TERMS, "(but that THE TAPE is used up by works())", EdgeOfTerms::worksUsesTheTapeUp);
        Edge.sentence(Edge.TERMS, "of several the first that the call's words name", EdgeOfTerms::ofSeveralTheFirst);
        Edge.sentence(Edge.TERMS, "-11 nothing where something is asked", EdgeOfTerms::nothingThere);
        Edge.sentence(Edge.TERMS, "-12 a place outside", EdgeOfTerms::placeOutside);
        Edge.sentence(Edge.TERMS, "-13 a thing of another sort or kind", EdgeOfTerms::anotherSort);
        Edge.sentence(Edge.TERMS, "-14 a size below 0", EdgeOfTerms::sizeBelowZero);
        Edge.sentence(Edge.TERMS, "-15 parted by 0", EdgeOfTerms::partedByZero);
        Edge.sentence(Edge.TERMS, "Sets are told by bits (those of PEOPLE: of PERSON p bit p; of TIES likewise)",
                EdgeOfTerms::setsByBits);
        Edge.sentence(Edge.TERMS, "without a common divisor", EdgeOfTerms::noCommonDivisor);
        Edge.sentence(Edge.TERMS, "below above 0 (0 is 0 by 1)", EdgeOfTerms::zeroIsZeroByOne);
    }

    private static void fiveHundredTwelveCalls() {
        HushTables x = Edge.chain(7);
        for (int calls = 7; calls < 511; calls++) {
            switch (calls % 6) {
                case 0: x.small(3, 0); break;
                case 1: x.who(0, 0); break;
                case 2: x.guards(0, 0); break;
                case 3: x.tell(2, 1); break;
                case 4: x.run(0, 20); break;
                default: x.prove(0, 6);
            }
        }
        Edge.due("the 512th call, early(0, 6)", x.early(0, 6), 6);
    }

    private static void constants() {
        Edge.due("BAD", HushTables.BAD, -1);
        Edge.due("FULL", HushTables.FULL, -2);
        Edge.due("NONE", HushTables.NONE, -3);
        Edge.due("STATE", HushTables.STATE, -4);
    }

    /** What is below 0 and told otherwise: the call is carried out. */
    private static void belowZeroAndNoRefusals() {
        HushTables x = Edge.of("people 3;tie 0 1;");
        x.seed(-1);
        Edge.due("seed(-4), was -1", x.seed(-4), -1);
        Edge.due("seed(5), was -4", x.seed(5), -4);
        Edge.due("seen(0, 1), nothing was", x.seen(0, 1), -9);
        Edge.due("seen(0, 1) again", x.seen(0, 1), 1);
        x.prove(0, 1);
        x.alterRow(0, 0, -1);
        Edge.due("alterRow(0, 0, 6), was -1", x.alterRow(0, 0, 6), -1);
        Edge.due("row(0, 0)", x.row(0, 0), 6);
        x.cut(1, 0, 0);
        x.shelf(0, 0, 0);
        Edge.due("act(0, 0, -3)", x.act(0, 0, -3), -3);
        Edge.due("bodies of it", x.many(6), 1);
    }

    // ---------------------------------------------------------------- refusals change nothing

    /** Something of all that there is, so that a change would show. */
    private static HushTables rich() {
        HushTables x = Edge.of("people 3;tie 0 2 worth 4 odds 1;late 0 3;first 2 weight 8;");
        x.seed(77);
        x.seen(1, 0);
        x.keep();
        Edge.read(x, "people 5;tie 0 1 worth 7 odds 3;tie 1 2 must;tie 2 3 odds 2;tie 3 4;late 2 4;seat 4;"
                + "first 1 weight 6;");
        x.cut(2, 3, 5);
        x.seen(2, 1);
        x.seen(0, 0);
        x.seed(-12345);
        x.prove(0, 3);
        x.sheet(0, 2, 3);
        x.put(0, 1, 5);
        x.sheet(1, 0, 2);
        x.put(1, 1, -7);
        x.sheet(3, 3, 0);
        x.shelf(0, 0, 1);
        x.shelf(1, 1, 0);
        x.shelf(3, 0, 2);
        x.act(0, 3, 5);
        Edge.tape(x, "people 2;tie 0 ");
        return x;
    }

    private static void refused(String what, long want, ToLongFunction<HushTables> call) {
        Edge.refused(what, want, EdgeOfTerms::rich, call);
    }

    private static void refusedChangesNothing() {
        refusedWorks();
        refusedCuts();
        refusedTale();
        refusedDays();
        refusedWhom();
        refusedHost();
        refusedWhenFullOrEmpty();
    }

    private static void refusedWorks() {
        refused("feed(1, 0)", -1, x -> x.feed(1, 0));
        refused("feed(1, 9)", -1, x -> x.feed(1, 9));
        refused("people(0)", -1, x -> x.people(0));
        refused("people(11)", -1, x -> x.people(11));
        refused("tie(0, 5, ..)", -1, x -> x.tie(0, 5, 1, 1, false));
        refused("tie(3, 3, ..)", -1, x -> x.tie(3, 3, 1, 1, false));
        refused("tie(0, 3, 100, ..)", -1, x -> x.tie(0, 3, 100, 1, false));
        refused("tie(0, 3, 1, 5, ..)", -1, x -> x.tie(0, 3, 1, 5, false));
        refused("tie(1, 0, ..)", -4, x -> x.tie(1, 0, 1, 1, true));
        refused("tieOf(4, 0)", -1, x -> x.tieOf(4, 0));
        refused("tieOf(0, 5)", -1, x -> x.tieOf(0, 5));
        refused("first(5, 3)", -1, x -> x.first(5, 3));
        refused("first(0, 10)", -1, x -> x.first(0, 10));
    }

    private static void refusedCuts() {
        refused("cut(0, 0, 0)", -1, x -> x.cut(0, 0, 0));
        refused("cut(7, 0, 0)", -1, x -> x.cut(7, 0, 0));
        refused("cut(2, 32, 0)", -1, x -> x.cut(2, 32, 0));
        refused("cut(4, 4, 0)", -1, x -> x.cut(4, 4, 0));
        refused("cut(1, 0, 100)", -1, x -> x.cut(1, 0, 100));
        refused("cutOf(3, 0)", -1, x -> x.cutOf(3, 0));
        refused("cutOf(0, 3)", -1, x -> x.cutOf(0, 3));
        refused("open(4, 0)", -1, x -> x.open(4, 0));
        refused("open(0, 100)", -1, x -> x.open(0, 100));
        refused("joined(5)", -1, x -> x.joined(5));
        refused("sets(2)", -1, x -> x.sets(2));
    }

    private static void refusedTale() {
        refused("chance(5, 0)", -1, x -> x.chance(5, 0));
        refused("chance(0, 2)", -1, x -> x.chance(0, 2));
        refused("reach(2)", -1, x -> x.reach(2));
        refused("seen(5, 1)", -1, x -> x.seen(5, 1));
        refused("seen(0, 2)", -1, x -> x.seen(0, 2));
        refused("who(5, 0)", -1, x -> x.who(5, 0));
        refused("who(0, 2)", -1, x -> x.who(0, 2));
        Edge.refused("who(0, 0), it can't be so", -3, EdgeOfTerms::impossible, x -> x.who(0, 0));
        Edge.refused("chance(0, 0), no WEIGHTS", -3, EdgeOfTerms::weightless, x -> x.chance(0, 0));
        Edge.refused("reach(0), no WEIGHTS", -3, EdgeOfTerms::weightless, x -> x.reach(0));
        refused("fewest(0, 5, 0)", -1, x -> x.fewest(0, 5, 0));
        refused("fewest(1, 2, 0)", -3, x -> x.fewest(1, 2, 0));
        refused("between(2, 2, 0)", -1, x -> x.between(2, 2, 0));
        refused("between(2, 3, 0)", -3, x -> x.between(2, 3, 0));
        refused("small(0, 0)", -1, x -> x.small(0, 0));
        refused("small(1, 0)", -3, x -> x.small(1, 0));
        refused("sit(11, 0)", -1, x -> x.sit(11, 0));
    }

    private static HushTables impossible() {
        HushTables x = rich();
        x.seen(4, 1);
        return x;
    }

    private static HushTables weightless() {
        HushTables x = rich();
        Edge.noWeights(x);
        return x;
    }

    private static void refusedDays() {
        refused("early(5, 0)", -1, x -> x.early(5, 0));
        refused("early(0, 4)", -3, x -> x.early(0, 4));
        refused("could(0, 101)", -1, x -> x.could(0, 101));
        refused("run(5, 1)", -1, x -> x.run(5, 1));
        refused("run(0, 21)", -1, x -> x.run(0, 21));
        refused("guards(0, 2)", -1, x -> x.guards(0, 2));
        refused("prove(0, 5)", -1, x -> x.prove(0, 5));
        refused("prove(0, 4)", -3, x -> x.prove(0, 4));
        refused("row(3, 0)", -9, x -> x.row(3, 0));
        refused("alterRow(3, 0, 8)", -9, x -> x.alterRow(3, 0, 8));
        refused("alterRow(0, 3, 8)", -9, x -> x.alterRow(0, 3, 8));
        refused("judge(0, 5)", -1, x -> x.judge(0, 5));
    }

    private static void refusedWhom() {
        refused("chair(2)", -1, x -> x.chair(2));
        refused("meet(0, 0)", -1, x -> x.meet(0, 0));
        refused("meet(17, 0)", -3, x -> x.meet(17, 0));
        refused("tell(101, 0)", -1, x -> x.tell(101, 0));
        refused("best(4, 0)", -1, x -> x.best(4, 0));
        refused("best(2, 0)", -11, x -> x.best(2, 0));
        refused("best(1, 0)", -13, x -> x.best(1, 0));
    }

    private static void refusedHost() {
        refused("sheet(4, 0, 1)", -1, x -> x.sheet(4, 0, 1));
        refused("sheet(0, 4, 1)", -1, x -> x.sheet(0, 4, 1));
        refused("sheet(0, 2, 41)", -1, x -> x.sheet(0, 2, 41));
        refused("sheet(0, 2, -1)", -14, x -> x.sheet(0, 2, -1));
        refused("put(4, 0, 9)", -1, x -> x.put(4, 0, 9));
        refused("put(2, 0, 9)", -11, x -> x.put(2, 0, 9));
        refused("put(0, 3, 9)", -12, x -> x.put(0, 3, 9));
        refused("item(4, 0, 0)", -1, x -> x.item(4, 0, 0));
        refused("item(0, 3, 0)", -13, x -> x.item(0, 3, 0));
        refused("shelf(4, 2, 0)", -1, x -> x.shelf(4, 2, 0));
        refused("shelf(0, 3, 0)", -1, x -> x.shelf(0, 3, 0));
        refused("shelf(0, 0, 3)", -1, x -> x.shelf(0, 0, 3));
        refused("shelf(0, 1, 4)", -1, x -> x.shelf(0, 1, 4));
        refused("taken(4, 0)", -1, x -> x.taken(4, 0));
        refused("taken(2, 0)", -11, x -> x.taken(2, 0));
        refused("taken(0, 1)", -13, x -> x.taken(0, 1));
        refused("trace(30)", -3, x -> x.trace(30));
        refused("many(8)", -1, x -> x.many(8));
    }

    private static void refusedWhenFullOrEmpty() {
        Edge.refused("feed(1, 8) at 193 bytes", -2, () -> taped(193), x -> x.feed(1, 8));
        Edge.refused("a 15th tie", -2, () -> Edge.withTies(14), x -> x.tie(8, 9, 1, 1, true));
        Edge.refused("a ninth cut", -2, () -> Edge.withCuts(8), x -> x.cut(1, 0, 0));
        Edge.refused("uncut() without cuts", -3, () -> Edge.chain(3), x -> x.uncut());
        Edge.refused("back() with nothing kept", -3, () -> Edge.chain(3), x -> x.back());
        Edge.refused("small(1, 0) of eight", -4, () -> Edge.chain(8), x -> x.small(1, 0));
        Edge.refused("sit(1, 0) of eight", -4, () -> Edge.chain(8), x -> x.sit(1, 0));
        Edge.refused("guards(0, 0) of nine", -4, () -> Edge.chain(9), x -> x.guards(0, 0));
        Edge.refused("chance(0, 0) of ten unsure", -4, EdgeOfTerms::tenUnsure, x -> x.chance(0, 0));
        Edge.refused("reach(0) of ten unsure", -4, EdgeOfTerms::tenUnsure, x -> x.reach(0));
        Edge.refused("who(0, 0) of ten unsure", -4, EdgeOfTerms::tenUnsure, x -> x.who(0, 0));
        Edge.refused("best(0, 0) of no numbers", -3, EdgeOfTerms::emptySheet, x -> x.best(0, 0));
    }

    private static HushTables taped(int bytes) {
        HushTables x = new HushTables();
        Edge.tape(x, "people 4;" + " ".repeat(bytes - 9));
        return x;
    }

    private static HushTables tenUnsure() {
        HushTables x = Edge.star(10, 3);
        x.tie(1, 2, 1, 1, false);
        return x;
    }

    private static HushTables emptySheet() {
        HushTables x = Edge.chain(3);
        x.sheet(0, 2, 0);
        return x;
    }

    private static void worksUsesTheTapeUp() {
        HushTables x = rich();
        Edge.due("works(), more must come", x.works(), -100 - 15);
        Edge.due("bytes left", x.many(5), 0);
        Supplier<HushTables> untaped = () -> {
            HushTables y = rich();
            y.works();
            return y;
        };
        HushTables taped = untaped.get();
        Edge.tape(taped, "people 9;tie 1 2;late 0 1;seat 9;");
        Edge.due("works(), no such person", taped.works(), -100 - 31);
        Edge.alike("a text with a fault", taped, untaped.get());
        Edge.due("works() again, of an empty tape", x.works(), -100);
    }

    // ---------------------------------------------------------------- the order of refusals

    private static void ofSeveralTheFirst() {
        Edge.due("feed: BAD, FULL", taped(200).feed(0, 9), -1);
        HushTables full = Edge.withTies(14);
        Edge.due("tie: BAD, FULL", full.tie(0, 0, 1, 1, false), -1);
        Edge.due("tie: FULL, STATE", full.tie(0, 1, 1, 1, false), -2);
        Edge.due("tie: BAD, STATE", Edge.withTies(1).tie(0, 1, 100, 1, false), -1);
        Edge.due("cut: BAD, FULL", Edge.withCuts(8).cut(7, 0, 0), -1);
        orderOfTheTale();
        orderOfPartings();
        Edge.due("guards: BAD, STATE", Edge.chain(9).guards(0, 2), -1);
        Edge.due("guards: BAD (from), STATE", Edge.chain(9).guards(9, 0), -1);
        Edge.due("meet: BAD, NONE", Edge.of(2).meet(3, 2), -1);
        orderOfTheHost();
    }

    private static void orderOfTheTale() {
        HushTables x = tenUnsure();
        Edge.due("chance: BAD, STATE", x.chance(10, 0), -1);
        Edge.due("reach: BAD, STATE", x.reach(2), -1);
        Edge.due("who: BAD, STATE", x.who(0, 2), -1);
        x.seen(0, 0);
        x.seen(3, 1);
        x.seen(4, 1);
        Edge.due("who: STATE, NONE (it can't be so)", x.who(0, 0), -4);
        Edge.noWeights(x);
        Edge.due("chance: BAD, NONE", x.chance(0, 2), -1);
        Edge.due("reach: BAD, NONE", x.reach(-1), -1);
        Edge.due("chance: NONE, STATE", x.chance(0, 0), -3);
        Edge.due("reach: NONE, STATE", x.reach(0), -3);
        Edge.due("who: STATE, NONE (no WEIGHTS)", x.who(0, 0), -4);
        HushTables y = Edge.of(2);
        Edge.noWeights(y);
        Edge.due("who: BAD, NONE", y.who(2, 0), -1);
    }

    private static void orderOfPartings() {
        HushTables x = Edge.of(8);
        x.tie(0, 1, 1, 4, true);
        Edge.due("fewest: BAD, NONE", x.fewest(0, 1, 2), -1);
        Edge.due("between: BAD, NONE", x.between(0, 1, 2), -1);
        Edge.due("small: BAD (m), STATE", x.small(0, 0), -1);
        Edge.due("small: BAD (what), STATE", x.small(1, 2), -1);
        Edge.due("small: STATE, NONE", x.small(1, 0), -4);
        Edge.due("sit: BAD (m), STATE", x.sit(11, 0), -1);
        Edge.due("sit: BAD (what), STATE", x.sit(1, 2), -1);
        HushTables y = Edge.of(2);
        y.tie(0, 1, 1, 4, true);
        Edge.due("small: BAD, NONE", y.small(1, 2), -1);
    }

    private static void orderOfTheHost() {
        HushTables x = new HushTables();
        Edge.due("best: BAD, -11", x.best(0, 2), -1);
        Edge.due("put: BAD, -12", x.put(4, -1, 0), -1);
        Edge.due("put: -11, -12", x.put(0, -1, 0), -11);
        Edge.due("item: BAD, -11", x.item(0, 4, 0), -1);
        Edge.due("item: -11, -12", x.item(0, 0, -1), -11);
        Edge.due("taken: BAD, -11", x.taken(0, 7), -1);
        Edge.due("sheet: BAD (sheet), -14", x.sheet(4, 0, -1), -1);
        Edge.due("sheet: BAD (sort), -14", x.sheet(0, 4, -1), -1);
        x.sheet(0, 1, 0);
        Edge.due("best: -13, NONE", x.best(0, 0), -13);
        Edge.due("best: BAD, -13", x.best(0, -1), -1);
        Edge.due("item: -13, -12", x.item(0, 2, 0), -13);
        Edge.due("item: BAD, -13, -12", x.item(0, 4, 0), -1);
        x.shelf(0, 1, 0);
        Edge.due("taken: BAD, -13", x.taken(0, 14), -1);
        x.sheet(0, 2, 0);
        Edge.due("best: BAD, NONE", x.best(0, 2), -1);
    }

    // ---------------------------------------------------------------- what the host refuses

    private static void nothingThere() {
        HushTables x = new HushTables();
        Edge.due("best(0, 0)", x.best(0, 0), -11);
        Edge.due("put(1, 0, 0)", x.put(1, 0, 0), -11);
        Edge.due("item(2, 3, 0)", x.item(2, 3, 0), -11);
        Edge.due("taken(3, 0)", x.taken(3, 0), -11);
        Edge.due("taken(3, 13)", x.taken(3, 13), -11);
    }

    private static void placeOutside() {
        HushTables x = new HushTables();
        x.sheet(0, 2, 3);
        Edge.each("put(0, #, 1)", -12, i -> x.put(0, i, 1), -1, 3, 40, Edge.LOW, Edge.HIGH);
        Edge.each("item(0, 2, #)", -12, i -> x.item(0, 2, i), -1, 3, 40, Edge.LOW, Edge.HIGH);
        Edge.each("put(0, #, 1), inside", 1, i -> x.put(0, i, 1), 0, 2);
        Edge.each("item(0, 2, #), inside", 1, i -> x.item(0, 2, i), 0, 2);
    }

    private static void anotherSort() {
        HushTables x = Edge.of("people 2;tie 0 1;seat 0;");
        x.sheet(0, 3, 1);
        x.shelf(0, 1, 0);
        x.shelf(1, 0, 0);
        Edge.due("item of longs as ints", x.item(0, 2, 0), -13);
        Edge.due("best of longs", x.best(0, 0), -13);
        Edge.due("a row of longs as one of ints", x.taken(0, 12), -13);
        Edge.due("a row as a thing", x.taken(0, 0), -13);
        Edge.due("a thing as a row", x.taken(1, 10), -13);
        Edge.due("a seat as a tie", x.taken(1, 1), -13);
    }

    private static void sizeBelowZero() {
        HushTables x = new HushTables();
        Edge.each("sheet(0, 0, #)", -14, n -> x.sheet(0, 0, n), -1, -2, Edge.LOW);
        Edge.due("of 0 there may be one", x.sheet(0, 0, 0), 1);
    }

    private static void partedByZero() {
        HushTables x = Edge.of("people 2;tie 0 1;");
        x.cut(1, 0, 0);
        x.shelf(0, 0, 0);
        Edge.each("act(0, 2, #)", -15, v -> x.act(0, 2, v), 0, 1, -1, Edge.LOW, Edge.HIGH);
    }

    // ---------------------------------------------------------------- sets and fractions

    private static void setsByBits() {
        HushTables x = Edge.of(10);
        Edge.row("joined(#)", p -> x.joined(p), 1, 2, 4, 8, 16, 32, 64, 128, 256, 512);
        HushTables y = Edge.chain(2);
        y.sheet(0, 2, 2);
        y.put(0, 0, 2);
        y.put(0, 1, 1);
        Edge.due("TIE 0 is bit 0", y.best(0, 0), 1);
        lastTieByItsBit();
    }

    /** TIE 13 alone holds PERSON 9: without it the greatest set is smaller. */
    private static void lastTieByItsBit() {
        HushTables x = Edge.of(10);
        for (int p = 1; p < 9; p++) {
            x.tie(0, p, 1, 4, false);
        }
        for (int p = 2; p < 7; p++) {
            x.tie(1, p, 1, 4, false);
        }
        Edge.due("the last TIE", x.tie(0, 9, 1, 4, false), 13);
        x.sheet(0, 2, 3);
        x.put(0, 0, 1 << 12);
        x.put(0, 1, 1 << 14);
        x.put(0, 2, 1 << 13);
        Edge.due("TIE 13 is bit 13", x.best(0, 0), 2);
        Edge.due("nine are left", x.best(0, 1), 9);
    }

    private static void fraction(String what, long above, long below, long wantAbove, long wantBelow) {
        Edge.due(what + ", above", above, wantAbove);
        Edge.due(what + ", below", below, wantBelow);
    }

    private static void noCommonDivisor() {
        HushTables x = Edge.of("people 2;tie 0 1 odds 2;first 0 weight 4;first 1 weight 8;");
        // 4 by 12 and 8 by 12 with 2 by 4: 8 by 12
        fraction("chance of 0", x.chance(0, 0), x.chance(0, 1), 2, 3);
        // 1 and 2 by 4
        fraction("reach", x.reach(0), x.reach(1), 3, 2);
        fraction("who 0", x.who(0, 0), x.who(0, 1), 1, 3);
        fraction("who 1", x.who(1, 0), x.who(1, 1), 2, 3);
        HushTables y = Edge.of("people 2;tie 0 1;first 0 weight 9;");
        fraction("a whole chance", y.chance(1, 0), y.chance(1, 1), 1, 1);
        fraction("a whole mean", y.reach(0), y.reach(1), 2, 1);
    }

    private static void zeroIsZeroByOne() {
        HushTables x = Edge.of("people 3;first 0 weight 9;first 1 weight 0;");
        fraction("chance", x.chance(1, 0), x.chance(1, 1), 0, 1);
        fraction("who", x.who(1, 0), x.who(1, 1), 0, 1);
        x.seen(0, 0);
        fraction("who, of those who can't", x.who(0, 0), x.who(0, 1), 0, 1);
    }
}
