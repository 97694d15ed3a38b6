/** The tale and partings: Promises 14 to 21. */
final class EdgeOfTale {
    private EdgeOfTale() {
    }

    static void all() {
        terms();
        chanceAndReach();
        seenAndWho();
        partTwo();
        partAll();
    }

    private static void terms() {
        int t = Edge.TERMS;
        Edge.sentence(t, "each PERSON with his WEIGHT by all WEIGHTS", EdgeOfTale::byAllWeights);
        Edge.sentence(t, "Each TIE that is OPEN on DAY 0 TELLS with ODDS by 4", EdgeOfTale::tellsWithOdds);
        Edge.sentence(t, "knows (FIRST, too)", EdgeOfTale::firstKnowsToo);
        Edge.sentence(t, "UNSURE are TIES OPEN on DAY 0 with ODDS below 4", EdgeOfTale::unsureTies);
        Edge.sentence(t, "or nothing (at first)", EdgeOfTale::nothingAtFirst);
        Edge.sentence(t, "odds that one was FIRST, when all is so that is SEEN", EdgeOfTale::whenAllIsSo);
        Edge.sentence(t, "TIES that are OPEN on DAY 0, none that MUST be, without which the two are not JOINED",
                EdgeOfTale::toPartTwo);
        Edge.sentence(t, "others without whom (with all their TIES) the two are not JOINED",
                EdgeOfTale::othersBetween);
        Edge.sentence(t, "SMALL by m: PEOPLE are parted into sets of m at most", EdgeOfTale::setsOfMAtMost);
        Edge.sentence(t, "TIES OPEN on DAY 0 between unlike sets are cut, none that MUST be",
                EdgeOfTale::betweenUnlikeSets);
        Edge.sentence(t, "the fewest TIES, and of such partings the least WORTH together",
                EdgeOfTale::fewestThenWorth);
        Edge.sentence(t, "TO SIT by m: PEOPLE are parted into sets of m at most", EdgeOfTale::sitByM);
        Edge.sentence(t, "the most WORTH of TIES (OPEN or not) within sets", EdgeOfTale::openOrNot);
    }

    private static void chanceAndReach() {
        Edge.sentence(14, "BAD: no such PERSON, part", EdgeOfTale::chanceBad);
        Edge.sentence(14, "NONE: all WEIGHTS are 0", EdgeOfTale::chanceNone);
        Edge.sentence(14, "STATE: more than 9 TIES are UNSURE", EdgeOfTale::chanceState);
        Edge.sentence(15, "How many know in the mean", EdgeOfTale::inTheMean);
        Edge.sentence(15, "BAD: part", EdgeOfTale::reachBad);
        Edge.sentence(15, "NONE, STATE as in chance()", EdgeOfTale::reachNoneState);
    }

    private static void seenAndWho() {
        Edge.sentence(16, "SEEN of a PERSON becomes v (1, 0; -1: nothing): what it was (-9: nothing)",
                EdgeOfTale::seenWas);
        Edge.sentence(16, "BAD", EdgeOfTale::seenBad);
        Edge.sentence(17, "BAD: no such PERSON, part", EdgeOfTale::whoBad);
        Edge.sentence(17, "STATE: more than 9 TIES are UNSURE", EdgeOfTale::whoState);
        Edge.sentence(17, "NONE: it can't be so", EdgeOfTale::whoCannotBe);
        Edge.sentence(17, "or all WEIGHTS are 0", EdgeOfTale::whoNoWeights);
    }

    private static void partTwo() {
        Edge.sentence(18, "the fewest TIES (what 0)", EdgeOfTale::fewestTies);
        Edge.sentence(18, "the least WORTH together (of any such TIES) (1)", EdgeOfTale::leastWorth);
        Edge.sentence(18, "BAD: no such PEOPLE, the same ones, what", EdgeOfTale::fewestBad);
        Edge.sentence(18, "NONE: it can't be", EdgeOfTale::fewestNone);
        Edge.sentence(19, "how many at least (what 0)", EdgeOfTale::howManyBetween);
        Edge.sentence(19, "these, of several the least as bits (1)", EdgeOfTale::leastBetween);
        Edge.sentence(19, "BAD likewise", EdgeOfTale::betweenBad);
        Edge.sentence(19, "NONE: a TIE of the two is OPEN on DAY 0", EdgeOfTale::betweenNone);
    }

    private static void partAll() {
        Edge.sentence(20, "SMALL by m: the fewest TIES (what 0), their WORTH (1)", EdgeOfTale::smallAnswers);
        Edge.sentence(20, "BAD: m (1 to 10), what", EdgeOfTale::smallBad);
        Edge.sentence(20, "STATE: more than 7 PEOPLE", EdgeOfTale::smallState);
        Edge.sentence(20, "NONE: it can't be", EdgeOfTale::smallNone);
        Edge.sentence(21, "how many partings have it (1)", EdgeOfTale::howManyPartings);
        Edge.sentence(21, "the WORTH (what 0)", EdgeOfTale::sitWorth);
        Edge.sentence(21, "BAD, STATE likewise", EdgeOfTale::sitBadState);
    }

    private static void chance(HushTables x, String what, int p, long above, long below) {
        Edge.due(what + ", chance(" + p + ", 0)", x.chance(p, 0), above);
        Edge.due(what + ", chance(" + p + ", 1)", x.chance(p, 1), below);
    }

    private static void reach(HushTables x, String what, long above, long below) {
        Edge.due(what + ", reach(0)", x.reach(0), above);
        Edge.due(what + ", reach(1)", x.reach(1), below);
    }

    private static void who(HushTables x, String what, int p, long above, long below) {
        Edge.due(what + ", who(" + p + ", 0)", x.who(p, 0), above);
        Edge.due(what + ", who(" + p + ", 1)", x.who(p, 1), below);
    }

    // ---------------------------------------------------------------- the tale

    private static void byAllWeights() {
        HushTables x = Edge.of("people 3;first 0 weight 9;first 1 weight 0;");
        chance(x, "9 by 10", 0, 9, 10);
        chance(x, "0 by 10", 1, 0, 1);
        chance(x, "1 by 10", 2, 1, 10);
        HushTables ten = Edge.of(10);
        for (int p = 0; p < 10; p++) {
            ten.first(p, 9);
        }
        chance(ten, "9 by 90", 9, 1, 10);
        // a weight of one who is none any more doesn't count
        ten.people(3);
        chance(ten, "1 by 3", 2, 1, 3);
    }

    private static void tellsWithOdds() {
        for (int odds = 1; odds <= 4; odds++) {
            HushTables x = Edge.of("people 2;tie 0 1 odds " + odds + ";first 1 weight 0;");
            chance(x, "odds " + odds, 1, odds == 2 ? 1 : odds == 4 ? 1 : odds, odds == 2 ? 2 : odds == 4 ? 1 : 4);
            x.cut(4, 0, 1);
            Edge.due("cut from DAY 1 on it tells", x.chance(1, 0), odds == 3 ? 3 : 1);
            x.cut(4, 0, 0);
            chance(x, "cut from DAY 0 on", 1, 0, 1);
        }
    }

    private static void firstKnowsToo() {
        HushTables x = Edge.of("people 2;tie 0 1 odds 1;first 1 weight 0;");
        chance(x, "FIRST himself", 0, 1, 1);
        chance(new HushTables(), "one alone", 0, 1, 1);
        reach(new HushTables(), "one alone", 1, 1);
        who(new HushTables(), "one alone", 0, 1, 1);
    }

    private static void unsureTies() {
        HushTables x = Edge.of("people 5;tie 0 1 odds 1;tie 1 2 odds 3;tie 2 3;tie 3 4 odds 2;");
        Edge.due("odds 1, 3, 2, not 4", x.many(7), 3);
        x.cut(4, 0, 1);
        Edge.due("cut from DAY 1 on it is UNSURE", x.many(7), 3);
        x.cut(4, 0, 0);
        Edge.due("cut from DAY 0 on it isn't", x.many(7), 2);
        x.cut(5, 31, 0);
        Edge.due("all cut", x.many(7), 0);
        HushTables y = Edge.of(10);
        for (int i = 0; i < 14; i++) {
            y.tie(i % 10, (i + 1 + i / 10) % 10, 1, 3, false);
        }
        Edge.due("fourteen", y.many(7), 14);
    }

    private static void nothingAtFirst() {
        HushTables x = new HushTables();
        Edge.due("of a new object", x.seen(0, 1), -9);
        x.people(10);
        for (int p = 0; p < 10; p++) {
            Edge.due("seen(" + p + ", -1)", x.seen(p, -1), -9);
        }
        Edge.due("of whom", x.many(3), 0);
    }

    private static void whenAllIsSo() {
        HushTables x = Edge.of("people 2;tie 0 1 odds 1;");
        who(x, "nothing is SEEN", 0, 1, 2);
        x.seen(0, 1);
        // FIRST 0: 1; FIRST 1: 1 by 4
        who(x, "0 knows", 0, 4, 5);
        who(x, "0 knows", 1, 1, 5);
        x.seen(1, 1);
        who(x, "both know", 0, 1, 2);
        x.seen(1, 0);
        who(x, "1 does not", 0, 1, 1);
        who(x, "1 does not", 1, 0, 1);
    }

    private static void chanceBad() {
        HushTables x = Edge.of(5);
        Edge.each("chance(#, 0)", -1, p -> x.chance(p, 0), -1, 5, 10, Edge.LOW, Edge.HIGH);
        Edge.each("chance(0, #)", -1, part -> x.chance(0, part), -1, 2, Edge.LOW, Edge.HIGH);
        Edge.due("the last one", x.chance(4, 1), 5);
    }

    private static void chanceNone() {
        HushTables x = Edge.of(10);
        for (int p = 0; p < 9; p++) {
            x.first(p, 0);
        }
        chance(x, "one WEIGHT is left", 9, 1, 1);
        x.first(9, 0);
        Edge.each("chance(9, #)", -3, part -> x.chance(9, part), 0, 1);
        x.first(0, 1);
        chance(x, "one again", 9, 0, 1);
    }

    /** 0 in the middle of nine with ODDS 3, and a tenth TIE. */
    private static HushTables tenTies(int odds) {
        HushTables x = Edge.star(10, 3);
        x.tie(1, 2, 1, odds, false);
        return x;
    }

    private static void chanceState() {
        // FIRST 0 and nine by 3 in 4
        chance(Edge.star(10, 3), "nine", 0, 31, 40);
        HushTables x = tenTies(3);
        Edge.each("ten, chance(0, #)", -4, part -> x.chance(0, part), 0, 1);
        x.cut(4, 9, 1);
        Edge.due("ten, one cut from DAY 1 on", x.chance(0, 0), -4);
        x.cut(4, 9, 0);
        chance(x, "nine, one cut from DAY 0 on", 0, 31, 40);
        // FIRST 1 or 2: one of two TIES must tell, 15 by 16
        chance(tenTies(4), "nine and a sure one", 0, 13, 16);
    }

    private static void inTheMean() {
        reach(Edge.of(10), "ten apart", 1, 1);
        reach(Edge.chain(10), "ten JOINED", 10, 1);
        // 31 by 4 from the middle, 25 by 4 from each of nine
        reach(Edge.star(10, 3), "nine UNSURE", 32, 5);
    }

    private static void reachBad() {
        HushTables x = Edge.of(5);
        Edge.each("reach(#)", -1, part -> x.reach(part), -1, 2, Edge.LOW, Edge.HIGH);
    }

    private static void reachNoneState() {
        HushTables x = Edge.of(3);
        Edge.noWeights(x);
        Edge.each("no WEIGHTS, reach(#)", -3, part -> x.reach(part), 0, 1);
        HushTables y = tenTies(1);
        Edge.each("ten UNSURE, reach(#)", -4, part -> y.reach(part), 0, 1);
        y.cut(1, 0, 0);
        Edge.due("nine UNSURE", y.reach(0) > 0 ? 1 : 0, 1);
        Edge.due("ten, one of them sure", tenTies(4).reach(0) > 0 ? 1 : 0, 1);
    }

    private static void seenWas() {
        HushTables x = Edge.of(10);
        Edge.due("nothing, -1 again", x.seen(9, -1), -9);
        Edge.due("of whom", x.many(3), 0);
        Edge.due("nothing", x.seen(9, 1), -9);
        Edge.due("of one", x.many(3), 1);
        Edge.due("1", x.seen(9, 0), 1);
        Edge.due("of one, that he doesn't", x.many(3), 1);
        Edge.due("0", x.seen(9, -1), 0);
        Edge.due("of none", x.many(3), 0);
        Edge.due("nothing again", x.seen(9, 0), -9);
        Edge.due("another one", x.seen(0, 0), -9);
        Edge.due("of two", x.many(3), 2);
    }

    private static void seenBad() {
        HushTables x = Edge.of(5);
        Edge.each("seen(#, 1)", -1, p -> x.seen(p, 1), -1, 5, 10, Edge.LOW, Edge.HIGH);
        Edge.each("seen(0, #)", -1, v -> x.seen(0, v), -2, 2, -9, Edge.LOW, Edge.HIGH);
        Edge.due("nothing is SEEN", x.many(3), 0);
    }

    private static void whoBad() {
        HushTables x = Edge.of(5);
        Edge.each("who(#, 0)", -1, p -> x.who(p, 0), -1, 5, 10, Edge.LOW, Edge.HIGH);
        Edge.each("who(0, #)", -1, part -> x.who(0, part), -1, 2, Edge.LOW, Edge.HIGH);
    }

    private static void whoState() {
        HushTables nine = Edge.star(10, 3);
        nine.seen(0, 1);
        // 1 and nine by 3 in 4: 4 by 31
        who(nine, "nine", 0, 4, 31);
        HushTables x = tenTies(3);
        Edge.each("ten, who(0, #)", -4, part -> x.who(0, part), 0, 1);
        x.cut(1, 9, 0);
        who(x, "nine, one cut", 0, 1, 10);
        who(tenTies(4), "nine and a sure one", 9, 1, 10);
    }

    private static void whoCannotBe() {
        HushTables x = Edge.of("people 3;tie 0 1 odds 2;tie 1 2;");
        for (int p = 0; p < 3; p++) {
            x.seen(p, 0);
        }
        Edge.each("nobody knows, who(0, #)", -3, part -> x.who(0, part), 0, 1);
        x.seen(1, 1);
        Edge.due("1 without 2, whom he tells", x.who(1, 0), -3);
        x.seen(2, 1);
        who(x, "1 and 2 without 0", 0, 0, 1);
        who(x, "1 and 2 without 0", 1, 1, 2);
        x.first(1, 0);
        x.first(2, 0);
        Edge.due("those who could have been FIRST have no WEIGHT", x.who(1, 0), -3);
        // of two apart both
        HushTables y = Edge.of(2);
        y.seen(0, 1);
        y.seen(1, 1);
        Edge.due("two apart", y.who(0, 0), -3);
    }

    private static void whoNoWeights() {
        HushTables x = Edge.of(3);
        Edge.noWeights(x);
        Edge.each("who(0, #)", -3, part -> x.who(0, part), 0, 1);
        x.first(2, 9);
        who(x, "one has a WEIGHT", 2, 1, 1);
        who(x, "one has a WEIGHT", 0, 0, 1);
    }

    // ---------------------------------------------------------------- parting two

    private static void toPartTwo() {
        HushTables x = Edge.of("people 3;tie 0 1 must;tie 1 2;");
        Edge.due("behind one that MUST be", x.fewest(0, 2, 0), 1);
        Edge.due("over one that MUST be", x.fewest(0, 1, 0), -3);
        x.cut(4, 1, 1);
        Edge.due("OPEN on DAY 0 alone", x.fewest(0, 2, 0), 1);
        x.cut(4, 1, 0);
        Edge.due("parted by a CUT", x.fewest(0, 2, 0), 0);
        x.cut(1, 0, 0);
        Edge.due("a CUT of one that MUST be", x.fewest(0, 1, 0), 0);
    }

    private static void fewestTies() {
        Edge.due("none", Edge.of(2).fewest(0, 1, 0), 0);
        Edge.due("one", Edge.chain(10).fewest(0, 9, 0), 1);
        HushTables x = Edge.of(10);
        x.tie(0, 9, 1, 4, false);
        for (int p = 1; p < 7; p++) {
            x.tie(0, p, 1, 4, false);
            x.tie(p, 9, 1, 4, false);
        }
        Edge.due("seven ways", x.fewest(9, 0, 0), 7);
        Edge.due("not JOINED", x.fewest(0, 8, 0), 0);
        HushTables apart = Edge.of("people 4;tie 0 1;tie 2 3;");
        Edge.each("not JOINED, each with a TIE of his own, fewest(0, 2, #)", 0, what -> apart.fewest(0, 2, what), 0, 1);
    }

    private static void leastWorth() {
        // the one TIE is dear, the two behind it are cheap
        HushTables x = Edge.of("people 5;tie 0 2 worth 50;tie 2 3 worth 1;tie 2 4 worth 1;tie 3 1 worth 9;"
                + "tie 4 1 worth 9;");
        Edge.due("the fewest", x.fewest(0, 1, 0), 1);
        Edge.due("the cheapest are more", x.fewest(0, 1, 1), 2);
        Edge.due("none", Edge.of(2).fewest(0, 1, 1), 0);
        Edge.due("of WORTH 0", Edge.of("people 2;tie 0 1 worth 0;").fewest(0, 1, 1), 0);
        HushTables y = Edge.of(10);
        y.tie(0, 9, 99, 4, false);
        for (int p = 1; p < 7; p++) {
            y.tie(0, p, 99, 4, false);
            y.tie(p, 9, 99, 4, false);
        }
        Edge.due("seven of 99", y.fewest(0, 9, 1), 693);
    }

    private static void fewestBad() {
        HushTables x = Edge.chain(5);
        Edge.each("fewest(#, 0, 0)", -1, p -> x.fewest(p, 0, 0), -1, 5, 10, Edge.LOW, Edge.HIGH);
        Edge.each("fewest(0, #, 0)", -1, p -> x.fewest(0, p, 0), -1, 5, 10, Edge.LOW, Edge.HIGH);
        Edge.each("fewest(#, #, 0)", -1, p -> x.fewest(p, p, 0), 0, 4);
        Edge.each("fewest(0, 4, #)", -1, what -> x.fewest(0, 4, what), -1, 2, Edge.LOW, Edge.HIGH);
    }

    private static void fewestNone() {
        HushTables x = Edge.of("people 4;tie 0 1 must;tie 1 2 must;tie 2 3 must;tie 0 3;");
        Edge.each("a way of those that MUST be, fewest(0, 3, #)", -3, what -> x.fewest(0, 3, what), 0, 1);
        x.cut(1, 1, 0);
        Edge.each("one of them cut, fewest(0, 3, #)", 1, what -> x.fewest(0, 3, what), 0, 1);
    }

    private static void othersBetween() {
        HushTables x = Edge.of("people 4;tie 0 1;tie 1 2 must;tie 0 3;tie 3 2;");
        Edge.due("1 and 3, MUST or not", x.between(0, 2, 1), 10);
        x.cut(4, 2, 1);
        Edge.due("OPEN on DAY 0", x.between(0, 2, 1), 10);
        x.cut(4, 2, 0);
        Edge.due("by 1 alone", x.between(0, 2, 1), 2);
    }

    /** 0 and 9 with seven others between them. */
    private static HushTables seven() {
        HushTables x = Edge.of(10);
        for (int p = 1; p < 8; p++) {
            x.tie(0, p, 1, 4, false);
            x.tie(p, 9, 1, 4, false);
        }
        return x;
    }

    private static void howManyBetween() {
        Edge.due("none", Edge.of(2).between(0, 1, 0), 0);
        Edge.due("not JOINED, though there are others", Edge.of("people 4;tie 0 1;tie 2 3;").between(0, 3, 0), 0);
        Edge.due("one", Edge.chain(10).between(9, 0, 0), 1);
        Edge.due("seven", seven().between(0, 9, 0), 7);
    }

    private static void leastBetween() {
        Edge.due("none", Edge.of(2).between(0, 1, 1), 0);
        Edge.due("none of the others", Edge.of("people 4;tie 0 1;tie 2 3;").between(0, 3, 1), 0);
        Edge.due("of eight the least", Edge.chain(10).between(0, 9, 1), 2);
        Edge.due("of eight the least, from the other one", Edge.chain(10).between(9, 0, 1), 2);
        Edge.due("seven", seven().between(9, 0, 1), 254);
        // fewer are ahead of those that are less as bits: 1 and 2, or 4
        HushTables x = Edge.of("people 5;tie 0 1;tie 0 2;tie 1 4;tie 2 4;tie 4 3;");
        Edge.due("one above two", x.between(0, 3, 1), 16);
    }

    private static void betweenBad() {
        HushTables x = Edge.chain(5);
        Edge.each("between(#, 0, 0)", -1, p -> x.between(p, 0, 0), -1, 5, 10, Edge.LOW, Edge.HIGH);
        Edge.each("between(0, #, 0)", -1, p -> x.between(0, p, 0), -1, 5, 10, Edge.LOW, Edge.HIGH);
        Edge.each("between(#, #, 0)", -1, p -> x.between(p, p, 0), 0, 4);
        Edge.each("between(0, 4, #)", -1, what -> x.between(0, 4, what), -1, 2, Edge.LOW, Edge.HIGH);
    }

    private static void betweenNone() {
        HushTables x = Edge.of("people 3;tie 0 1;tie 1 2;tie 0 2;");
        Edge.each("between(0, 2, #)", -3, what -> x.between(0, 2, what), 0, 1);
        Edge.each("between(2, 0, #)", -3, what -> x.between(2, 0, what), 0, 1);
        x.cut(4, 2, 1);
        Edge.due("cut from DAY 1 on", x.between(0, 2, 0), -3);
        x.cut(4, 2, 0);
        Edge.due("cut from DAY 0 on", x.between(0, 2, 1), 2);
        HushTables two = Edge.chain(2);
        Edge.due("two and no others", two.between(0, 1, 0), -3);
    }

    // ---------------------------------------------------------------- parting all

    private static void setsOfMAtMost() {
        HushTables x = Edge.chain(7);
        // a chain of seven in pieces of m at most
        long[] want = {0, 6, 3, 2, 1, 1, 1, 0, 0, 0, 0};
        for (int m = 1; m <= 10; m++) {
            Edge.due("a chain of seven, small(" + m + ", 0)", x.small(m, 0), want[m]);
        }
        // a ring of four: three and one costs as much as two and two
        HushTables y = Edge.of("people 4;tie 0 1;tie 1 2;tie 2 3;tie 3 0;");
        Edge.due("smaller sets are fine, too", y.small(3, 0), 2);
    }

    private static void betweenUnlikeSets() {
        HushTables x = Edge.of("people 4;tie 0 1 must worth 1;tie 1 2 worth 9;tie 2 3 worth 1;");
        Edge.due("0 and 1 stay together", x.small(2, 1), 9);
        x.cut(4, 1, 1);
        Edge.due("cut from DAY 1 on it counts", x.small(2, 0), 1);
        x.cut(4, 1, 0);
        Edge.due("cut from DAY 0 on it doesn't", x.small(2, 0), 0);
        x.cut(4, 0, 0);
        Edge.due("one that MUST be, but is cut", x.small(1, 0), 1);
    }

    private static void fewestThenWorth() {
        // one TIE of WORTH 1, or two of WORTH 0
        HushTables x = Edge.of("people 4;tie 0 1 worth 99;tie 0 2 worth 0;tie 1 2 worth 0;tie 2 3 worth 1;");
        Edge.due("one TIE", x.small(3, 0), 1);
        Edge.due("of WORTH 1", x.small(3, 1), 1);
        // one TIE, of two the cheaper
        HushTables y = Edge.of("people 4;tie 0 1 worth 7;tie 1 2 worth 9;tie 2 3 worth 5;");
        Edge.due("one of two TIES", y.small(3, 0), 1);
        Edge.due("the cheapest", y.small(3, 1), 5);
    }

    private static void smallAnswers() {
        HushTables one = new HushTables();
        Edge.row("of one, small(1, #)", what -> one.small(1, what), 0, 0);
        HushTables x = Edge.of(7);
        for (int i = 0; i < 7; i++) {
            x.tie(i, (i + 1) % 7, 99, 4, false);
            x.tie(i, (i + 2) % 7, 99, 4, false);
        }
        Edge.row("all fourteen, small(1, #)", what -> x.small(1, what), 14, 1386);
        Edge.row("none, small(7, #)", what -> x.small(7, what), 0, 0);
        Edge.row("one off, small(6, #)", what -> x.small(6, what), 4, 396);
    }

    private static void smallBad() {
        HushTables x = Edge.of(5);
        Edge.each("small(#, 0)", -1, m -> x.small(m, 0), 0, 11, -1, Edge.LOW, Edge.HIGH);
        Edge.each("small(#, 1)", -1, m -> x.small(m, 1), 0, 11, -1, Edge.LOW, Edge.HIGH);
        Edge.each("small(#, 0)", 0, m -> x.small(m, 0), 1, 10);
        Edge.each("small(1, #)", -1, what -> x.small(1, what), -1, 2, Edge.LOW, Edge.HIGH);
    }

    private static void smallState() {
        Edge.due("seven", Edge.chain(7).small(1, 0), 6);
        for (int n = 8; n <= 10; n++) {
            HushTables x = Edge.chain(n);
            Edge.each("of " + n + ", small(#, 0)", -4, m -> x.small(m, 0), 1, 7, 8, 10);
        }
    }

    private static void smallNone() {
        HushTables x = Edge.of("people 3;tie 0 1 must;tie 1 2 must;");
        Edge.each("small(1, #)", -3, what -> x.small(1, what), 0, 1);
        Edge.each("small(2, #)", -3, what -> x.small(2, what), 0, 1);
        Edge.each("small(3, #)", 0, what -> x.small(3, what), 0, 1);
    }

    private static void sitByM() {
        HushTables x = Edge.of("people 7;tie 0 1 worth 1;tie 1 2 worth 2;tie 2 3 worth 4;tie 3 4 worth 8;"
                + "tie 4 5 worth 16;tie 5 6 worth 32;");
        // by two 5-6, 3-4, 1-2 sit together, by three 4-5-6 and 1-2-3, by four 3-4-5-6 and 0-1-2
        long[] want = {0, 0, 42, 54, 59, 61, 62, 63, 63, 63, 63};
        for (int m = 1; m <= 10; m++) {
            Edge.due("sit(" + m + ", 0)", x.sit(m, 0), want[m]);
        }
    }

    private static void openOrNot() {
        HushTables x = Edge.of("people 3;tie 0 1 worth 5;tie 1 2 worth 6 must;");
        x.cut(5, 7, 0);
        Edge.due("all cut", x.sit(3, 0), 11);
        Edge.due("one of two, MUST or not", x.sit(2, 0), 6);
    }

    private static void sitWorth() {
        Edge.due("of one", new HushTables().sit(1, 0), 0);
        Edge.due("of none", Edge.of(7).sit(7, 0), 0);
        HushTables x = Edge.of(7);
        for (int i = 0; i < 7; i++) {
            x.tie(i, (i + 1) % 7, 99, 4, false);
            x.tie(i, (i + 2) % 7, 99, 4, false);
        }
        Edge.due("all of fourteen", x.sit(7, 0), 1386);
        Edge.due("each alone", x.sit(1, 0), 0);
    }

    private static void howManyPartings() {
        Edge.due("of one", new HushTables().sit(10, 1), 1);
        // the numbers of partings of n, and of those into ones and twos
        long[] all = {0, 1, 2, 5, 15, 52, 203, 877};
        long[] twos = {0, 1, 2, 4, 10, 26, 76, 232};
        for (int n = 1; n <= 7; n++) {
            Edge.due("all of " + n, Edge.of(n).sit(n, 1), all[n]);
            Edge.due("all of " + n + " by 10", Edge.of(n).sit(10, 1), all[n]);
            Edge.due("by two of " + n, Edge.of(n).sit(2, 1), n == 1 ? 1 : twos[n]);
            Edge.due("by one of " + n, Edge.of(n).sit(1, 1), 1);
        }
        // 0 and 1 together: the other two as one likes
        Edge.due("one TIE of four", Edge.of("people 4;tie 0 1;").sit(4, 1), 5);
        Edge.due("TIES of WORTH 0", Edge.of("people 4;tie 0 1 worth 0;").sit(4, 1), 15);
    }

    private static void sitBadState() {
        HushTables x = Edge.of(7);
        Edge.each("sit(#, 0)", -1, m -> x.sit(m, 0), 0, 11, -1, Edge.LOW, Edge.HIGH);
        Edge.each("sit(#, 1)", -1, m -> x.sit(m, 1), 0, 11, -1, Edge.LOW, Edge.HIGH);
        Edge.each("sit(#, 0)", 0, m -> x.sit(m, 0), 1, 10);
        Edge.each("sit(1, #)", -1, what -> x.sit(1, what), -1, 2, Edge.LOW, Edge.HIGH);
        for (int n = 8; n <= 10; n++) {
            HushTables y = Edge.of(n);
            Edge.each("of " + n + ", sit(#, 0)", -4, m -> y.sit(m, 0), 1, 10);
        }
    }
}
