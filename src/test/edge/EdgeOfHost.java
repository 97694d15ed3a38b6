/** Whom to choose, SHEETS, SHELVES, ACTS, and what is kept: Promises 31 to 44. */
final class EdgeOfHost {
    private static final int TIE = 1, TABLE = 2, SHIFT = 3, LATE = 4, SEAT = 5, TOLD = 6;
    private static final int PARTS = 0, COSTS = 1, SHARES = 2, TELLS = 3;

    private EdgeOfHost() {
    }

    static void all() {
        terms();
        whom();
        sheets();
        shelves();
        actsAndMany();
        kept();
    }

    private static void terms() {
        int t = Edge.TERMS;
        Edge.sentence(t, "the PERSON without whom (with his TIES) the greatest JOINED set of the others is least",
                EdgeOfHost::withoutWhom);
        Edge.sentence(t, "the fewest PEOPLE among them all of a set, who are JOINED by TIES among themselves",
                EdgeOfHost::amongThemselves);
        Edge.sentence(t, "the fewest PEOPLE, so that all could know behind d DAYS, if these know ahead of DAY 0",
                EdgeOfHost::allCouldKnow);
        Edge.sentence(t, "with a number x (ints that wrap)", EdgeOfHost::intsThatWrap);
        Edge.sentence(t, "x by (a - n), the rest away", EdgeOfHost::theRestAway);
        Edge.sentence(t, "-15 if these are the same; that is all that act() answers then", EdgeOfHost::theSame);
        Edge.sentence(t, "THE TRACE is of it all the same", EdgeOfHost::traceAllTheSame);
        Edge.sentence(t, "numbers of the bodies that ran in the latest act(), as they began (left first)",
                EdgeOfHost::leftFirst);
        Edge.sentence(t, "the first 30 are kept", EdgeOfHost::longestTrace);
        Edge.sentence(t, "SHEETS 0 to 3 are rows of bytes (sort 0), shorts (1), ints (2) or longs (3), 40 at most, or "
                + "missing (at first)", EdgeOfHost::missingAtFirst);
        Edge.sentence(t, "SHELVES 0 to 3 hold a CUT (by its number: another one that has it later, too",
                EdgeOfHost::anotherOneLater);
        Edge.sentence(t, "nothing, if there is no such one any more", EdgeOfHost::noSuchOneAnyMore);
        Edge.sentence(t, "a SHEET's row, or nothing (at first)", EdgeOfHost::shelvesAtFirst);
    }

    private static void whom() {
        Edge.sentence(31, "who (what 0; of several the least)", EdgeOfHost::chairOfSeveral);
        Edge.sentence(31, "(1; 0 without others)", EdgeOfHost::chairWithoutOthers);
        Edge.sentence(31, "BAD", EdgeOfHost::chairBad);
        Edge.sentence(32, "how many (what 0), these, of several the least as bits (1)", EdgeOfHost::meetOfSeveral);
        Edge.sentence(32, "BAD: a set of none or of others, what", EdgeOfHost::meetBad);
        Edge.sentence(32, "NONE: they can't", EdgeOfHost::meetNone);
        Edge.sentence(33, "TO TELL FIRST by so many DAYS (0 to 100)", EdgeOfHost::tellDays);
        Edge.sentence(33, "these, of several the least as bits (1)", EdgeOfHost::tellOfSeveral);
        Edge.sentence(33, "BAD", EdgeOfHost::tellBad);
        Edge.sentence(34, "(other bits count nothing)", EdgeOfHost::bestOtherBits);
        Edge.sentence(34, "of several the first: its place (what 0), how many PEOPLE it has then (1)",
                EdgeOfHost::bestOfSeveral);
        Edge.sentence(34, "BAD: no such SHEET, what", EdgeOfHost::bestBad);
        Edge.sentence(34, "-11;", EdgeOfHost::bestMissing);
        Edge.sentence(34, "-13;", EdgeOfHost::bestAnotherSort);
        Edge.sentence(34, "NONE: it has no numbers", EdgeOfHost::bestNone);
    }

    private static void sheets() {
        Edge.sentence(35, "A SHEET becomes a row of n of a sort, all 0", EdgeOfHost::sheetAllZero);
        Edge.sentence(35, "or missing (sort -1; n counts nothing then): 1", EdgeOfHost::sheetMissing);
        Edge.sentence(35, "BAD: no such SHEET, sort, n above 40", EdgeOfHost::sheetBad);
        Edge.sentence(35, "-14", EdgeOfHost::sheetBelow);
        Edge.sentence(36, "Item i becomes v, narrowed to its sort: 1", EdgeOfHost::putNarrowed);
        Edge.sentence(36, "BAD: no such SHEET", EdgeOfHost::putBad);
        Edge.sentence(36, "-11;", EdgeOfHost::putMissing);
        Edge.sentence(36, "-12", EdgeOfHost::putOutside);
        Edge.sentence(37, "taken for a sort (0 to 3; of longs the lowest 32 bits)", EdgeOfHost::itemOfSorts);
        Edge.sentence(37, "BAD: no such SHEET, sort", EdgeOfHost::itemBad);
        Edge.sentence(37, "-11;", EdgeOfHost::itemMissing);
        Edge.sentence(37, "-13;", EdgeOfHost::itemAnotherSort);
        Edge.sentence(37, "-12.", EdgeOfHost::itemOutside);
        Edge.sentence(37, "(An item may be as low as these, too.)", EdgeOfHost::itemAsLow);
    }

    private static void shelves() {
        Edge.sentence(38, "A SHELF holds CUT n (what 0)", EdgeOfHost::shelfCut);
        Edge.sentence(38, "(1; as it is then; nothing, if missing)", EdgeOfHost::shelfRow);
        Edge.sentence(38, "nothing (2; n does not matter): 1", EdgeOfHost::shelfNothing);
        Edge.sentence(38, "BAD: no such SHELF, what, thing", EdgeOfHost::shelfBad);
        Edge.sentence(39, "for a thing of KIND as (0 to 6, or one under it): its number", EdgeOfHost::takenKind);
        Edge.sentence(39, "for a row of sort as - 10 (as 10 to 13): how many items", EdgeOfHost::takenRow);
        Edge.sentence(39, "BAD: no such SHELF, as", EdgeOfHost::takenBad);
        Edge.sentence(39, "-11;", EdgeOfHost::takenNothing);
        Edge.sentence(39, "-13", EdgeOfHost::takenAnother);
    }

    private static void actsAndMany() {
        Edge.sentence(40, "An ACT (0 to 3) of the thing on a SHELF, with x", EdgeOfHost::actsOfAll);
        Edge.sentence(40, "0, and no TRACE then: no such SHELF, act, nothing, a row", EdgeOfHost::actZero);
        Edge.sentence(41, "THE TRACE's i-th body", EdgeOfHost::traceBodies);
        Edge.sentence(41, "NONE", EdgeOfHost::traceNone);
        Edge.sentence(42, "0 PEOPLE, 1 TIES, 2 CUTS, 3 of whom something is SEEN, 4 ROWS, 5 bytes of THE TAPE",
                EdgeOfHost::manyAtMost);
        Edge.sentence(42, "6 bodies of THE TRACE (those kept, 30 at most)", EdgeOfHost::longestTrace);
        Edge.sentence(42, "7 UNSURE TIES", EdgeOfHost::manyUnsure);
        Edge.sentence(42, "BAD: another what", EdgeOfHost::manyBad);
    }

    private static void kept() {
        Edge.sentence(43, "All but THE TAPE, ROWS, SHEETS, SHELVES, THE TRACE is kept: 1", EdgeOfHost::allButThese);
        Edge.sentence(44, "It becomes what was kept latest (which stays): how many TIES", EdgeOfHost::keptLatest);
        Edge.sentence(44, "NONE: nothing is kept", EdgeOfHost::nothingKept);
    }

    // ---------------------------------------------------------------- whom

    private static void withoutWhom() {
        HushTables x = Edge.chain(7);
        Edge.row("the middle of seven, chair(#)", what -> x.chair(what), 3, 3);
        // 0-1, and a star of five around 4
        HushTables y = Edge.of("people 7;tie 0 1;tie 2 4;tie 3 4;tie 5 4;tie 6 4;");
        Edge.row("the middle of the greater set, chair(#)", what -> y.chair(what), 4, 2);
        y.cut(LATE, 3, 1);
        Edge.row("cut from DAY 1 on, chair(#)", what -> y.chair(what), 4, 2);
        y.cut(SEAT, 16, 0);
        Edge.row("4 is cut off, chair(#)", what -> y.chair(what), 0, 1);
    }

    private static void chairOfSeveral() {
        HushTables x = Edge.of(10);
        Edge.row("ten apart, chair(#)", what -> x.chair(what), 0, 1);
        HushTables y = Edge.chain(10);
        Edge.row("4 or 5, chair(#)", what -> y.chair(what), 4, 5);
        HushTables z = Edge.of(10);
        for (int p = 0; p < 9; p++) {
            z.tie(9, p, 1, 4, false);
        }
        Edge.row("the last one, chair(#)", what -> z.chair(what), 9, 1);
    }

    private static void chairWithoutOthers() {
        HushTables one = new HushTables();
        Edge.row("one, chair(#)", what -> one.chair(what), 0, 0);
        HushTables two = Edge.chain(2);
        Edge.row("two, chair(#)", what -> two.chair(what), 0, 1);
    }

    private static void chairBad() {
        HushTables x = Edge.of(5);
        Edge.each("chair(#)", -1, what -> x.chair(what), -1, 2, Edge.LOW, Edge.HIGH);
    }

    private static void amongThemselves() {
        HushTables x = Edge.of("people 5;tie 0 1;tie 1 2;tie 2 3;tie 3 4;tie 0 4;");
        Edge.due("one", x.meet(8, 1), 8);
        Edge.due("two with a TIE", x.meet(17, 1), 17);
        Edge.due("by the shorter way", x.meet(1 | 8, 1), 1 | 8 | 16);
        x.cut(4, 4, 1);
        Edge.due("cut from DAY 1 on", x.meet(17, 0), 2);
        x.cut(4, 4, 0);
        Edge.due("cut from DAY 0 on: round about", x.meet(17, 0), 5);
    }

    private static void meetOfSeveral() {
        HushTables x = Edge.of("people 6;tie 0 4;tie 4 5;tie 0 3;tie 3 5;tie 0 2;tie 2 1;tie 1 5;");
        Edge.row("by 3 or by 4, meet(33, #)", what -> x.meet(33, what), 3, 1 | 8 | 32);
        // fewer are ahead of those that are less as bits: 0, 1, 2, 5 or 0, 3, 5
        Edge.due("three above four", x.meet(33, 1), 41);
        HushTables ten = Edge.chain(10);
        Edge.row("all ten, meet(1023, #)", what -> ten.meet(1023, what), 10, 1023);
        Edge.row("the ends, meet(513, #)", what -> ten.meet(513, what), 10, 1023);
        HushTables one = new HushTables();
        Edge.row("one, meet(1, #)", what -> one.meet(1, what), 1, 1);
    }

    private static void meetBad() {
        HushTables x = Edge.chain(5);
        Edge.each("meet(#, 0)", -1, set -> x.meet(set, 0), 0, 32, 33, -1, 1023, 1 << 30, Edge.LOW, Edge.HIGH);
        Edge.each("meet(1, #)", -1, what -> x.meet(1, what), -1, 2, Edge.LOW, Edge.HIGH);
        Edge.due("all of them", x.meet(31, 0), 5);
    }

    private static void meetNone() {
        HushTables x = Edge.of("people 4;tie 0 1;tie 2 3;");
        Edge.each("meet(5, #)", -3, what -> x.meet(5, what), 0, 1);
        Edge.due("all", x.meet(15, 0), -3);
        Edge.due("those of a TIE", x.meet(12, 0), 2);
        x.cut(1, 1, 0);
        Edge.due("their TIE is cut", x.meet(12, 0), -3);
    }

    private static void allCouldKnow() {
        HushTables x = Edge.chain(3);
        Edge.due("all", x.tell(0, 1), 7);
        Edge.due("the middle", x.tell(1, 1), 2);
        Edge.due("any", x.tell(2, 1), 1);
        // 1-2 is OPEN on DAY 0 alone
        x.cut(4, 1, 1);
        Edge.due("0 is too far", x.tell(2, 1), 2);
        x.cut(4, 1, 0);
        Edge.due("one of each set", x.tell(100, 1), 5);
    }

    private static void tellDays() {
        HushTables x = Edge.chain(10);
        Edge.row("tell(#, 0)", days -> x.tell(days, 0), 10, 4, 2, 2, 2, 1, 1);
        Edge.each("tell(#, 1)", 1, days -> x.tell(days, 1), 9, 99, 100);
        HushTables apart = Edge.of(10);
        Edge.each("ten apart, tell(#, 1)", 1023, days -> apart.tell(days, 1), 0, 1, 100);
        Edge.due("one", new HushTables().tell(0, 1), 1);
    }

    private static void tellOfSeveral() {
        HushTables x = Edge.chain(10);
        Edge.due("by 5 the least of 4 and 5", x.tell(5, 1), 16);
        Edge.due("by 8 the least of eight", x.tell(8, 1), 2);
        // 0 to 5 and 6 to 9: by 4 the first of the two may be 0, the other one 5 at the least
        Edge.due("by 4", x.tell(4, 1), 1 | 32);
        // fewer are ahead of those that are less as bits
        HushTables star = Edge.of(10);
        for (int p = 0; p < 9; p++) {
            star.tie(9, p, 1, 4, false);
        }
        Edge.row("the last one above nine, tell(1, #)", what -> star.tell(1, what), 1, 512);
    }

    private static void tellBad() {
        HushTables x = Edge.chain(5);
        Edge.each("tell(#, 0)", -1, days -> x.tell(days, 0), -1, 101, Edge.LOW, Edge.HIGH);
        Edge.each("tell(0, #)", -1, what -> x.tell(0, what), -1, 2, Edge.LOW, Edge.HIGH);
    }

    private static HushTables withNumbers(int... numbers) {
        HushTables x = Edge.chain(6);
        x.sheet(0, 2, numbers.length);
        for (int i = 0; i < numbers.length; i++) {
            x.put(0, i, numbers[i]);
        }
        return x;
    }

    private static void bestOtherBits() {
        HushTables x = withNumbers(1 << 5, Edge.LOW, ~31, 1, Edge.LOW | 1);
        Edge.row("bits of no TIE, best(0, #)", what -> x.best(0, what), 3, 5);
        HushTables y = withNumbers(0, -1);
        Edge.row("all bits, best(0, #)", what -> y.best(0, what), 1, 1);
        HushTables z = withNumbers(0, 1);
        z.cut(1, 2, 0);
        Edge.row("a TIE that is cut is none anyhow, best(0, #)", what -> z.best(0, what), 0, 3);
        HushTables late = withNumbers(0, 1);
        late.cut(LATE, 2, 1);
        Edge.row("one that is cut from DAY 1 on is OPEN, best(0, #)", what -> late.best(0, what), 1, 5);
    }

    private static void bestOfSeveral() {
        HushTables x = withNumbers(1, 4, 4, 4 | 16);
        Edge.row("the first of three, best(0, #)", what -> x.best(0, what), 1, 3);
        HushTables one = withNumbers(0);
        Edge.row("one number, best(0, #)", what -> one.best(0, what), 0, 6);
        HushTables ten = Edge.chain(10);
        ten.sheet(0, 2, 1);
        Edge.row("all ten JOINED, best(0, #)", what -> ten.best(0, what), 0, 10);
        HushTables y = Edge.chain(6);
        y.sheet(3, 2, 40);
        y.put(3, 39, 31);
        Edge.row("the last of forty, best(3, #)", what -> y.best(3, what), 39, 1);
    }

    private static void bestBad() {
        HushTables x = withNumbers(1);
        Edge.each("best(#, 0)", -1, sheet -> x.best(sheet, 0), -1, 4, Edge.LOW, Edge.HIGH);
        Edge.each("best(0, #)", -1, what -> x.best(0, what), -1, 2, Edge.LOW, Edge.HIGH);
    }

    private static void bestMissing() {
        HushTables x = withNumbers(1);
        Edge.each("best(#, 0)", -11, sheet -> x.best(sheet, 0), 1, 2, 3);
        x.sheet(0, -1, 0);
        Edge.due("it is missing again", x.best(0, 0), -11);
    }

    private static void bestAnotherSort() {
        HushTables x = Edge.chain(6);
        for (int sort : new int[] {0, 1, 3}) {
            x.sheet(0, sort, 2);
            Edge.due("sort " + sort, x.best(0, 0), -13);
        }
        x.sheet(0, 2, 2);
        Edge.due("ints", x.best(0, 0), 0);
    }

    private static void bestNone() {
        HushTables x = withNumbers();
        Edge.each("best(0, #)", -3, what -> x.best(0, what), 0, 1);
    }

    // ---------------------------------------------------------------- sheets

    private static void missingAtFirst() {
        HushTables x = new HushTables();
        Edge.row("item(#, 2, 0)", sheet -> x.item(sheet, 2, 0), -11, -11, -11, -11, -1);
        for (int sort = 0; sort < 4; sort++) {
            int s = sort;
            Edge.due("40 of sort " + s, x.sheet(s, s, 40), 1);
            Edge.due("41 of sort " + s, x.sheet(s, s, 41), -1);
            Edge.due("the last", x.put(s, 39, s + 1), 1);
        }
        Edge.row("each SHEET is its own, item(#, #, 39)", sort -> x.item(sort, sort, 39), 1, 2, 3, 4);
    }

    private static void sheetAllZero() {
        HushTables x = new HushTables();
        x.sheet(0, 2, 40);
        for (int i = 0; i < 40; i++) {
            x.put(0, i, -1);
        }
        Edge.due("anew", x.sheet(0, 2, 40), 1);
        for (int i = 0; i < 40; i++) {
            Edge.due("item(0, 2, " + i + ")", x.item(0, 2, i), 0);
        }
        Edge.due("of none", x.sheet(0, 2, 0), 1);
        Edge.due("it has no items", x.item(0, 2, 0), -12);
        Edge.due("of another sort", x.sheet(0, 1, 1), 1);
        Edge.due("its only item", x.item(0, 1, 0), 0);
        Edge.due("no other", x.item(0, 1, 1), -12);
    }

    private static void sheetMissing() {
        HushTables x = new HushTables();
        for (int n : new int[] {0, 1, 40, 41, -1, Edge.LOW, Edge.HIGH}) {
            x.sheet(1, 2, 3);
            Edge.due("sheet(1, -1, " + n + ")", x.sheet(1, -1, n), 1);
            Edge.due("it is missing", x.item(1, 2, 0), -11);
        }
        Edge.due("missing once more", x.sheet(1, -1, 0), 1);
        x.sheet(1, 2, 1);
        Edge.due("behind that all 0", x.item(1, 2, 0), 0);
    }

    private static void sheetBad() {
        HushTables x = new HushTables();
        Edge.each("sheet(#, 2, 1)", -1, sheet -> x.sheet(sheet, 2, 1), -1, 4, Edge.LOW, Edge.HIGH);
        Edge.each("sheet(#, -1, 1)", -1, sheet -> x.sheet(sheet, -1, 1), -1, 4);
        Edge.each("sheet(0, #, 1)", -1, sort -> x.sheet(0, sort, 1), -2, 4, Edge.LOW, Edge.HIGH);
        Edge.each("sheet(0, 2, #)", -1, n -> x.sheet(0, 2, n), 41, Edge.HIGH);
        Edge.each("sheet(3, 3, #)", 1, n -> x.sheet(3, 3, n), 0, 1, 40);
        Edge.due("it is still missing", x.item(0, 2, 0), -11);
    }

    private static void sheetBelow() {
        HushTables x = new HushTables();
        x.sheet(0, 2, 1);
        x.put(0, 0, 6);
        for (int sort = 0; sort < 4; sort++) {
            int s = sort;
            Edge.each("sheet(0, " + s + ", #)", -14, n -> x.sheet(0, s, n), -1, -40, Edge.LOW);
        }
        Edge.due("it is as it was", x.item(0, 2, 0), 6);
    }

    private static void narrowed(HushTables x, int sort, int v, int want) {
        Edge.due("put(" + sort + ", 0, " + v + ")", x.put(sort, 0, v), 1);
        Edge.due("item(" + sort + ", " + sort + ", 0) behind " + v, x.item(sort, sort, 0), want);
    }

    private static void putNarrowed() {
        HushTables x = new HushTables();
        for (int sort = 0; sort < 4; sort++) {
            x.sheet(sort, sort, 2);
        }
        int[][] bytes = {{127, 127}, {128, -128}, {-128, -128}, {-129, 127}, {255, -1}, {256, 0}, {Edge.HIGH, -1},
            {Edge.LOW, 0}};
        int[][] shorts = {{32767, 32767}, {32768, -32768}, {-32768, -32768}, {-32769, 32767}, {65535, -1},
            {65536, 0}, {Edge.HIGH, -1}, {Edge.LOW, 0}};
        for (int[] pair : bytes) {
            narrowed(x, 0, pair[0], pair[1]);
        }
        for (int[] pair : shorts) {
            narrowed(x, 1, pair[0], pair[1]);
        }
        for (int v : new int[] {0, -1, 32768, 65536, Edge.HIGH, Edge.LOW}) {
            narrowed(x, 2, v, v);
            narrowed(x, 3, v, v);
        }
        Edge.row("the others stay, item(#, #, 1)", sort -> x.item(sort, sort, 1), 0, 0, 0, 0);
    }

    private static void putBad() {
        HushTables x = new HushTables();
        Edge.each("put(#, 0, 1)", -1, sheet -> x.put(sheet, 0, 1), -1, 4, Edge.LOW, Edge.HIGH);
    }

    private static void putMissing() {
        HushTables x = new HushTables();
        Edge.each("put(#, 0, 1)", -11, sheet -> x.put(sheet, 0, 1), 0, 1, 2, 3);
        x.sheet(3, 2, 1);
        Edge.due("it is there", x.put(3, 0, 1), 1);
        x.sheet(3, -1, 1);
        Edge.due("it is missing again", x.put(3, 0, 1), -11);
    }

    private static void putOutside() {
        HushTables x = new HushTables();
        x.sheet(0, 2, 40);
        Edge.each("put(0, #, 1)", -12, i -> x.put(0, i, 1), -1, 40, Edge.LOW, Edge.HIGH);
        Edge.each("put(0, #, 1)", 1, i -> x.put(0, i, 1), 0, 39);
        x.sheet(0, 2, 0);
        Edge.due("of none", x.put(0, 0, 1), -12);
    }

    private static void itemOfSorts() {
        HushTables x = new HushTables();
        for (int sort = 0; sort < 4; sort++) {
            x.sheet(sort, sort, 1);
            x.put(sort, 0, 5);
        }
        Edge.row("item(#, #, 0)", sort -> x.item(sort, sort, 0), 5, 5, 5, 5);
        x.put(3, 0, Edge.LOW);
        Edge.due("the lowest 32 bits of a long", x.item(3, 3, 0), Edge.LOW);
    }

    private static void itemBad() {
        HushTables x = new HushTables();
        x.sheet(0, 2, 1);
        Edge.each("item(#, 2, 0)", -1, sheet -> x.item(sheet, 2, 0), -1, 4, Edge.LOW, Edge.HIGH);
        Edge.each("item(0, #, 0)", -1, sort -> x.item(0, sort, 0), -1, 4, Edge.LOW, Edge.HIGH);
    }

    private static void itemMissing() {
        HushTables x = new HushTables();
        Edge.each("item(1, #, 0)", -11, sort -> x.item(1, sort, 0), 0, 1, 2, 3);
    }

    private static void itemAnotherSort() {
        HushTables x = new HushTables();
        for (int sort = 0; sort < 4; sort++) {
            x.sheet(0, sort, 1);
            for (int as = 0; as < 4; as++) {
                Edge.due("sort " + sort + " as " + as, x.item(0, as, 0), as == sort ? 0 : -13);
            }
        }
    }

    private static void itemOutside() {
        HushTables x = new HushTables();
        x.sheet(0, 2, 40);
        Edge.each("item(0, 2, #)", -12, i -> x.item(0, 2, i), -1, 40, Edge.LOW, Edge.HIGH);
        Edge.each("item(0, 2, #)", 0, i -> x.item(0, 2, i), 0, 39);
        x.sheet(0, 2, 0);
        Edge.due("of none", x.item(0, 2, 0), -12);
    }

    private static void itemAsLow() {
        HushTables x = new HushTables();
        x.sheet(0, 0, 1);
        for (int v : new int[] {-1, -11, -12, -13}) {
            Edge.due("put", x.put(0, 0, v), 1);
            Edge.due("an item of " + v, x.item(0, 0, 0), v);
        }
    }

    // ---------------------------------------------------------------- shelves

    private static void shelvesAtFirst() {
        HushTables x = new HushTables();
        Edge.row("taken(#, 0)", shelf -> x.taken(shelf, 0), -11, -11, -11, -11, -1);
        Edge.row("taken(#, 10)", shelf -> x.taken(shelf, 10), -11, -11, -11, -11, -1);
        Edge.row("act(#, 0, 5)", shelf -> x.act(shelf, 0, 5), 0, 0, 0, 0, 0);
    }

    private static void anotherOneLater() {
        HushTables x = Edge.of("people 3;tie 0 1;tie 1 2;");
        x.cut(TABLE, 1, 0);
        x.cut(SEAT, 2, 0);
        x.shelf(0, 0, 1);
        Edge.due("a seat", x.taken(0, SEAT), 1);
        x.uncut();
        x.cut(TIE, 1, 0);
        Edge.due("a tie now", x.taken(0, TIE), 1);
        Edge.due("no seat any more", x.taken(0, SEAT), -13);
        // n 1, a 1: costs(5) is (5 + 1) * 2 - 1
        Edge.due("its ACT", x.act(0, COSTS, 5), 11);
        // a CUT that went away and came again in another works
        x.people(4);
        x.cut(TOLD, 3, 0);
        Edge.due("one CUT is too few", x.taken(0, 0), -11);
        x.cut(SHIFT, 3, 0);
        Edge.due("the second one is it", x.taken(0, TABLE), 1);
    }

    private static void noSuchOneAnyMore() {
        HushTables x = Edge.of("people 3;tie 0 1;");
        x.cut(SEAT, 1, 0);
        x.shelf(3, 0, 0);
        x.keep();
        x.uncut();
        Edge.due("taken", x.taken(3, 0), -11);
        Edge.due("taken for a row", x.taken(3, 10), -11);
        Edge.due("act", x.act(3, PARTS, 5), 0);
        Edge.due("no TRACE", x.many(6), 0);
        x.back();
        Edge.due("it is there again", x.taken(3, SEAT), 0);
        Edge.read(x, "people 3;");
        Edge.due("a works without CUTS", x.taken(3, 0), -11);
        Edge.read(x, "people 3;seat 1;");
        Edge.due("a works with one", x.taken(3, 0), 0);
    }

    private static void shelfCut() {
        HushTables x = Edge.withCuts(8);
        for (int cut = 0; cut < 8; cut++) {
            Edge.due("shelf(0, 0, " + cut + ")", x.shelf(0, 0, cut), 1);
            Edge.due("it holds it", x.taken(0, 0), cut);
        }
        Edge.due("another SHELF", x.shelf(3, 0, 2), 1);
        Edge.due("it holds its own", x.taken(3, 0), 2);
        Edge.due("the first holds its own", x.taken(0, 0), 7);
    }

    private static void shelfRow() {
        HushTables x = new HushTables();
        x.sheet(2, 3, 40);
        Edge.due("shelf(1, 1, 2)", x.shelf(1, 1, 2), 1);
        x.sheet(2, 0, 3);
        Edge.due("as it was then", x.taken(1, 13), 40);
        Edge.due("not as it is now", x.taken(1, 10), -13);
        x.sheet(2, -1, 0);
        Edge.due("as it was then, though it is missing", x.taken(1, 13), 40);
        Edge.due("a missing one", x.shelf(1, 1, 2), 1);
        Edge.due("is nothing", x.taken(1, 13), -11);
        x.sheet(2, 3, 4);
        Edge.due("is nothing, though there is one now", x.taken(1, 13), -11);
        x.sheet(0, 0, 0);
        Edge.due("a row of none", x.shelf(1, 1, 0), 1);
        Edge.due("is a row", x.taken(1, 10), 0);
    }

    private static void shelfNothing() {
        HushTables x = Edge.withCuts(1);
        for (int n : new int[] {0, 1, -1, 40, Edge.LOW, Edge.HIGH}) {
            x.shelf(0, 0, 0);
            Edge.due("shelf(0, 2, " + n + ")", x.shelf(0, 2, n), 1);
            Edge.due("nothing", x.taken(0, 0), -11);
        }
        x.sheet(0, 0, 1);
        x.shelf(0, 1, 0);
        x.shelf(0, 2, 0);
        Edge.due("nothing where a row was", x.taken(0, 10), -11);
    }

    private static void shelfBad() {
        HushTables x = Edge.withCuts(2);
        x.shelf(0, 0, 1);
        for (int what = 0; what < 3; what++) {
            int w = what;
            Edge.each("shelf(#, " + w + ", 0)", -1, shelf -> x.shelf(shelf, w, 0), -1, 4, Edge.LOW, Edge.HIGH);
        }
        Edge.each("shelf(0, #, 0)", -1, what -> x.shelf(0, what, 0), -1, 3, Edge.LOW, Edge.HIGH);
        Edge.each("shelf(0, 0, #)", -1, n -> x.shelf(0, 0, n), -1, 2, 8, Edge.LOW, Edge.HIGH);
        Edge.each("shelf(0, 1, #)", -1, n -> x.shelf(0, 1, n), -1, 4, Edge.LOW, Edge.HIGH);
        Edge.due("it holds what it held", x.taken(0, 0), 1);
        Edge.due("without CUTS", new HushTables().shelf(0, 0, 0), -1);
    }

    private static void takenKind() {
        // rows: KIND of the CUT; columns: as 0 cut, 1 tie, 2 table, 3 shift, 4 late, 5 seat, 6 told
        String[] fits = {"", "11.....", "1.1....", "1.11...", "11..1..", "1.11.1.", "1.....1"};
        for (int kind = 1; kind <= 6; kind++) {
            HushTables x = Edge.withCuts(kind);
            x.cut(kind, 0, 0);
            x.shelf(2, 0, kind);
            for (int as = 0; as <= 6; as++) {
                long want = fits[kind].charAt(as) == '1' ? kind : -13;
                Edge.due("KIND " + kind + " as " + as, x.taken(2, as), want);
            }
        }
    }

    private static void takenRow() {
        HushTables x = new HushTables();
        for (int sort = 0; sort < 4; sort++) {
            for (int n : new int[] {0, 1, 40}) {
                x.sheet(0, sort, n);
                x.shelf(0, 1, 0);
                for (int as = 10; as <= 13; as++) {
                    Edge.due(n + " of sort " + sort + " as " + as, x.taken(0, as), as - 10 == sort ? n : -13);
                }
            }
        }
    }

    private static void takenBad() {
        HushTables x = Edge.withCuts(1);
        x.shelf(0, 0, 0);
        x.sheet(0, 0, 1);
        x.shelf(1, 1, 0);
        Edge.each("taken(#, 0)", -1, shelf -> x.taken(shelf, 0), -1, 4, Edge.LOW, Edge.HIGH);
        for (int shelf = 0; shelf < 4; shelf++) {
            int s = shelf;
            Edge.each("taken(" + s + ", #)", -1, as -> x.taken(s, as), -1, 7, 8, 9, 14, Edge.LOW, Edge.HIGH);
        }
    }

    private static void takenNothing() {
        HushTables x = Edge.withCuts(1);
        Edge.each("taken(0, #)", -11, as -> x.taken(0, as), 0, 1, 6, 10, 13);
        x.shelf(0, 0, 0);
        Edge.due("it is there", x.taken(0, 0), 0);
        x.uncut();
        Edge.each("no such CUT any more, taken(0, #)", -11, as -> x.taken(0, as), 0, 1, 6, 10, 13);
    }

    private static void takenAnother() {
        HushTables x = Edge.withCuts(1);
        x.shelf(0, 0, 0);
        Edge.each("a told, taken(0, #)", -13, as -> x.taken(0, as), 1, 2, 3, 4, 5, 10, 11, 12, 13);
        x.sheet(1, 2, 3);
        x.shelf(0, 1, 1);
        Edge.each("a row of ints, taken(0, #)", -13, as -> x.taken(0, as), 0, 1, 2, 3, 4, 5, 6, 10, 11, 13);
    }

    // ---------------------------------------------------------------- acts

    /** A works with five PEOPLE and a CUT of this KIND and A whose number is n, on SHELF 0. */
    private static HushTables thing(int kind, int n, int a) {
        HushTables x = Edge.of("people 5;tie 0 1;tie 1 2;tie 2 3;tie 3 4;");
        for (int i = 0; i < n; i++) {
            x.cut(TOLD, 0, 0);
        }
        x.cut(kind, a, 0);
        x.shelf(0, 0, n);
        return x;
    }

    private static void acted(HushTables x, int act, int number, long want, int... bodies) {
        String what = "act(0, " + act + ", " + number + ") of KIND " + x.cutOf(x.many(2) - 1, 0);
        Edge.due(what, x.act(0, act, number), want);
        Edge.due(what + ", bodies", x.many(6), bodies.length);
        for (int i = 0; i < bodies.length; i++) {
            Edge.due(what + ", trace(" + i + ")", x.trace(i), bodies[i]);
        }
    }

    private static void intsThatWrap() {
        Edge.due("parts: HIGH + 7", thing(TIE, 7, 0).act(0, PARTS, Edge.HIGH), Edge.LOW + 6);
        Edge.due("costs: HIGH * 2", thing(TIE, 0, 0).act(0, COSTS, Edge.HIGH), -2);
        Edge.due("costs: LOW * 2 - 1", thing(TIE, 0, 1).act(0, COSTS, Edge.LOW), -1);
        Edge.due("costs of a tie: 2^30 * 2 - 1", thing(TIE, 0, 1).act(0, COSTS, 1 << 30), Edge.HIGH);
        Edge.due("parts of a table: HIGH * 3", thing(TABLE, 0, 1).act(0, PARTS, Edge.HIGH), Edge.HIGH - 2);
        Edge.due("parts of a shift: LOW * 3 - 0", thing(SHIFT, 0, 1).act(0, PARTS, Edge.LOW), Edge.LOW);
        // (LOW + 1) * 3 is LOW + 3, less 1
        Edge.due("parts of a shift: less n", thing(SHIFT, 1, 2).act(0, PARTS, Edge.LOW), Edge.LOW + 2);
        Edge.due("parts of a late: 0 - LOW", thing(LATE, 0, 0).act(0, PARTS, Edge.LOW), Edge.LOW);
        // x + 2 wraps ahead of the parting: -2147483647 by 3 is -715827882
        Edge.due("shares of a shift: HIGH + 2", thing(SHIFT, 0, 3).act(0, SHARES, Edge.HIGH), -715827882 ^ 1);
        Edge.due("shares: LOW by -1", thing(TIE, 1, 0).act(0, SHARES, Edge.LOW), Edge.LOW);
        // tells of a table, n 0, a 1: HIGH * 3 * 2 ^ 1, and 0 by 1
        Edge.due("tells of a table", thing(TABLE, 0, 1).act(0, TELLS, Edge.HIGH), (Edge.HIGH - 2) * 2 ^ 1);
    }

    private static void theRestAway() {
        // a - n is 3, then -3
        HushTables x = thing(TIE, 0, 3);
        Edge.row("shares(#) by 3", v -> x.act(0, SHARES, v), 0, 0, 0, 1, 1, 1, 2);
        Edge.row("shares(-#) by 3", v -> x.act(0, SHARES, -v), 0, 0, 0, -1, -1, -1, -2);
        HushTables y = thing(TIE, 3, 0);
        Edge.row("shares(#) by -3", v -> y.act(0, SHARES, v), 0, 0, 0, -1, -1, -1, -2);
        Edge.row("shares(-#) by -3", v -> y.act(0, SHARES, -v), 0, 0, 0, 1, 1, 1, 2);
        HushTables z = thing(TABLE, 0, 1);
        Edge.due("by 1", z.act(0, SHARES, Edge.LOW), Edge.LOW);
        Edge.due("by -1", thing(TIE, 2, 1).act(0, SHARES, 7), -7);
        Edge.due("by 31", thing(TABLE, 0, 31).act(0, SHARES, 61), 1);
    }

    private static void theSame() {
        for (int n = 0; n < 4; n++) {
            for (int kind = TIE; kind <= TOLD; kind++) {
                HushTables x = thing(kind, n, n);
                Edge.each("shares(#), KIND " + kind + ", n and a " + n, -15, v -> x.act(0, SHARES, v), 0, 7, -7);
            }
        }
        // all that the answer is: nothing is added to it, nor does it go by 2
        Edge.due("tells of a table", thing(TABLE, 3, 3).act(0, TELLS, 5), -15);
        Edge.due("costs of a seat", thing(SEAT, 3, 3).act(0, COSTS, 5), -15);
        Edge.due("tells of a seat", thing(SEAT, 3, 3).act(0, TELLS, 5), -15);
        Edge.due("shares of a told", thing(TOLD, 3, 3).act(0, SHARES, 5), -15);
        // those that never part
        HushTables x = thing(TIE, 3, 3);
        Edge.due("tells of a tie: ((5 + 3) * 2 - 3) ^ 3", x.act(0, TELLS, 5), 14);
        Edge.due("one more or less", thing(TIE, 2, 3).act(0, SHARES, 5), 5);
        // behind one that parted by 0 the next is whole again
        x.act(0, SHARES, 5);
        Edge.due("parts behind it", x.act(0, PARTS, 5), 8);
    }

    private static void traceAllTheSame() {
        acted(thing(TIE, 3, 3), SHARES, 5, -15, 12);
        acted(thing(TOLD, 3, 3), SHARES, 5, -15, 71, 12);
        acted(thing(SHIFT, 3, 3), SHARES, 5, -15, 40, 12);
        acted(thing(TABLE, 3, 3), TELLS, 5, -15, 31, 13, 11, 30, 10, 12);
        acted(thing(SEAT, 3, 3), COSTS, 5, -15, 60, 11, 41, 30, 10, 40, 12);
        acted(thing(SEAT, 3, 3), TELLS, 5, -15, 61, 31, 13, 60, 11, 41, 30, 10, 40, 12);
    }

    private static void leftFirst() {
        // late, n 1, a 3: costs(5) is -(5 + 1) * 2 - 3, and -(1 + 1)
        acted(thing(LATE, 1, 3), COSTS, 5, -17, 51, 20, 11, 50, 10, 50, 10);
        // told, n 1, a 6: shares(10) is 10 by 5, and (6 + 1) ^ 6
        acted(thing(TOLD, 1, 6), SHARES, 10, 3, 71, 12, 70, 10);
        HushTables x = thing(LATE, 1, 3);
        x.act(0, TELLS, 5);
        acted(x, PARTS, 5, -6, 50, 10);
        Edge.due("nothing is left of the one ahead", x.trace(2), -3);
    }

    /** No ACT runs more bodies than tells of a seat: 30 are never reached. */
    private static void longestTrace() {
        acted(thing(SEAT, 1, 6), TELLS, 5, ((34 ^ 6) + 1) * 2, 61, 31, 13, 60, 11, 41, 30, 10, 40, 12, 40, 12);
        int most = 0;
        for (int kind = TIE; kind <= TOLD; kind++) {
            for (int act = PARTS; act <= TELLS; act++) {
                HushTables x = thing(kind, 1, 3);
                x.act(0, act, 5);
                most = Math.max(most, x.many(6));
                Edge.due("behind the last", x.trace(x.many(6)), -3);
            }
        }
        Edge.due("the most bodies of an ACT", most, 12);
    }

    private static void actsOfAll() {
        // n 1, and a 3 throughout
        acted(thing(TIE, 1, 3), PARTS, 5, 6, 10);
        acted(thing(TIE, 1, 3), COSTS, 5, 9, 20, 11, 10);
        acted(thing(TIE, 1, 3), SHARES, 5, 2, 12);
        acted(thing(TIE, 1, 3), TELLS, 5, 10, 13, 20, 11, 10);
        acted(thing(TABLE, 1, 3), PARTS, 5, 18, 30, 10);
        acted(thing(TABLE, 1, 3), COSTS, 5, 36, 11, 30, 10);
        acted(thing(TABLE, 1, 3), SHARES, 5, 2, 12);
        acted(thing(TABLE, 1, 3), TELLS, 5, 39, 31, 13, 11, 30, 10, 12);
        acted(thing(SHIFT, 1, 3), PARTS, 5, 17, 41, 30, 10);
        acted(thing(SHIFT, 1, 3), COSTS, 5, 34, 11, 41, 30, 10);
        acted(thing(SHIFT, 1, 3), SHARES, 5, 2, 40, 12);
        acted(thing(SHIFT, 1, 3), SHARES, 4, 2, 40, 12);
        acted(thing(SHIFT, 1, 3), SHARES, 6, 5, 40, 12);
        acted(thing(SHIFT, 1, 3), TELLS, 5, 33, 31, 13, 11, 41, 30, 10, 40, 12);
        acted(thing(LATE, 1, 3), PARTS, 5, -6, 50, 10);
        acted(thing(LATE, 1, 3), COSTS, 5, -17, 51, 20, 11, 50, 10, 50, 10);
        acted(thing(LATE, 1, 3), SHARES, 5, 2, 12);
        acted(thing(LATE, 1, 3), TELLS, 5, -20, 13, 51, 20, 11, 50, 10, 50, 10);
        acted(thing(SEAT, 1, 3), PARTS, 5, 17, 41, 30, 10);
        acted(thing(SEAT, 1, 3), COSTS, 5, 37, 60, 11, 41, 30, 10, 40, 12);
        acted(thing(SEAT, 1, 3), SHARES, 5, 2, 40, 12);
        acted(thing(SEAT, 1, 3), TELLS, 5, 76, 61, 31, 13, 60, 11, 41, 30, 10, 40, 12, 40, 12);
        acted(thing(TOLD, 1, 3), PARTS, 5, 5, 70, 10);
        acted(thing(TOLD, 1, 3), COSTS, 5, 10, 11, 70, 10);
        acted(thing(TOLD, 1, 3), SHARES, 5, 9, 71, 12, 70, 10);
        acted(thing(TOLD, 1, 3), TELLS, 5, 9, 13, 11, 70, 10);
    }

    private static void actIsZero(HushTables x, int shelf, int act) {
        x.shelf(0, 0, 0);
        x.act(0, PARTS, 5);
        Edge.due("bodies ahead of it", x.many(6), 1);
        Edge.due("act(" + shelf + ", " + act + ", 5)", x.act(shelf, act, 5), 0);
        Edge.due("no TRACE", x.many(6), 0);
        Edge.due("no body", x.trace(0), -3);
    }

    private static void actZero() {
        HushTables x = thing(TIE, 0, 3);
        for (int shelf : new int[] {-1, 4, Edge.LOW, Edge.HIGH}) {
            actIsZero(x, shelf, PARTS);
        }
        for (int act : new int[] {-1, 4, Edge.LOW, Edge.HIGH}) {
            actIsZero(x, 0, act);
        }
        actIsZero(x, 1, PARTS);
        x.sheet(0, 2, 3);
        x.shelf(2, 1, 0);
        for (int act = PARTS; act <= TELLS; act++) {
            actIsZero(x, 2, act);
        }
        x.cut(TIE, 0, 0);
        x.shelf(3, 0, 1);
        x.uncut();
        actIsZero(x, 3, PARTS);
    }

    private static void traceBodies() {
        HushTables x = thing(TABLE, 0, 1);
        x.act(0, TELLS, 5);
        Edge.row("trace(#)", i -> x.trace(i), 31, 13, 11, 30, 10, 12);
        x.people(2);
        x.sheet(0, 0, 1);
        x.shelf(0, 2, 0);
        Edge.row("it is of the latest act(), trace(#)", i -> x.trace(i), 31, 13, 11, 30, 10, 12, -3);
    }

    private static void traceNone() {
        HushTables x = new HushTables();
        Edge.due("no act() yet", x.trace(0), -3);
        HushTables y = thing(TABLE, 0, 1);
        y.act(0, TELLS, 5);
        Edge.each("trace(#)", -3, i -> y.trace(i), -1, 6, 29, 30, 31, Edge.LOW, Edge.HIGH);
    }

    // ---------------------------------------------------------------- many

    private static void manyAtMost() {
        HushTables x = Edge.withTies(14);
        for (int i = 0; i < 8; i++) {
            x.cut(TOLD, 0, 0);
        }
        for (int p = 0; p < 10; p++) {
            x.seen(p, p % 2);
        }
        x.prove(0, 9);
        Edge.tape(x, " ".repeat(200));
        Edge.row("many(#)", what -> x.many(what), 10, 14, 8, 10, 1, 200, 0, 0);
        // with all that can be every call looks at the last TIE and the last CUT, and no further
        Edge.due("all OPEN, joined(9)", x.joined(9), 1023);
        Edge.due("sets(0)", x.sets(0), 1);
        Edge.due("fewest(0, 9, 0)", x.fewest(0, 9, 0), 1);
        Edge.due("early(9, 6)", x.early(9, 6), 2);
        Edge.due("chair(1)", x.chair(1), 6);
        Edge.due("run(0, 1)", x.run(0, 1), 1023);
        Edge.due("chance(9, 0)", x.chance(9, 0), 1);
        HushTables y = Edge.chain(10);
        y.prove(0, 9);
        Edge.due("the most ROWS", y.many(4), 9);
        HushTables z = new HushTables();
        Edge.row("at least, many(#)", what -> z.many(what), 1, 0, 0, 0, 0, 0, 0, 0);
    }

    private static void manyUnsure() {
        HushTables x = Edge.of(10);
        for (int p = 0; p < 9; p++) {
            x.tie(p, p + 1, 1, 1 + p % 4, false);
        }
        Edge.due("seven of nine", x.many(7), 7);
        x.cut(SEAT, 1, 0);
        Edge.due("one of them cut", x.many(7), 6);
        x.uncut();
        Edge.due("it is OPEN again", x.many(7), 7);
        Edge.due("none", new HushTables().many(7), 0);
    }

    private static void manyBad() {
        HushTables x = new HushTables();
        Edge.each("many(#)", -1, what -> x.many(what), -1, 8, Edge.LOW, Edge.HIGH);
    }

    // ---------------------------------------------------------------- kept

    private static void allButThese() {
        HushTables x = Edge.of("people 5;tie 0 1 odds 3 worth 8 must;tie 1 2;seat 4;first 2 weight 7;");
        x.seed(50);
        x.seen(3, 1);
        x.prove(0, 1);
        x.sheet(0, 2, 1);
        x.put(0, 0, 1);
        x.shelf(0, 0, 0);
        x.act(0, PARTS, 1);
        x.feed(0, 2);
        Edge.due("keep()", x.keep(), 1);
        Edge.read(x, "x");
        x.people(2);
        x.seed(60);
        x.tie(0, 1, 1, 1, false);
        x.seen(0, 0);
        x.feed(0, 5);
        x.sheet(0, 2, 2);
        x.sheet(1, 0, 3);
        x.shelf(0, 1, 1);
        x.act(0, PARTS, 1);
        Edge.due("back()", x.back(), 2);
        // ROWS went with people(), bytes, SHEETS, SHELVES and THE TRACE are as they are now
        Edge.row("many(#)", what -> x.many(what), 5, 2, 1, 1, 0, 5, 0, 1);
        Edge.row("tieOf(0, #)", what -> x.tieOf(0, what), 0, 1, 8, 3, 1);
        Edge.row("tieOf(1, #)", what -> x.tieOf(1, what), 1, 2, 1, 4, 0);
        Edge.row("cutOf(0, #)", what -> x.cutOf(0, what), 5, 16, 0);
        Edge.row("first(#, 1)", p -> x.first(p, 1), 1, 1, 7, 1, 1);
        Edge.row("seen(#, -1)", p -> x.seen(p, -1), -9, -9, -9, 1, -9);
        Edge.due("z", x.seed(1), 50);
        Edge.due("the SHEET", x.item(0, 2, 1), 0);
        Edge.due("the SHELF", x.taken(0, 10), 3);
    }

    /** As much as there can be, each thing unlike the others, in one of two ways that differ in all of it. */
    private static void fill(HushTables x, int way) {
        x.people(10);
        for (int i = 0; i < 14; i++) {
            int a = (i + way) % 10;
            x.tie(a, (a + 1 + i / 10) % 10, 80 + i - 20 * way, 1 + (i + way) % 4, i % 2 == way);
        }
        for (int i = 0; i < 8; i++) {
            x.cut(way == 0 ? LATE : TIE, 13 - i - way, 90 + i - 20 * way);
        }
        for (int p = 0; p < 10; p++) {
            x.first(p, (p + way) % 10);
            x.seen(p, p % 2 == way ? 1 : 0);
        }
        x.seed(Edge.LOW + way);
    }

    private static void brimfulComesBack(int way) {
        HushTables x = new HushTables();
        fill(x, way);
        x.keep();
        fill(x, 1 - way);
        Edge.due("back()", x.back(), 14);
        HushTables twin = new HushTables();
        fill(twin, way);
        twin.keep();
        Edge.alike("keep() and back() of all that can be", x, twin);
    }

    private static void keptLatest() {
        brimfulComesBack(0);
        brimfulComesBack(1);
        HushTables x = Edge.withTies(14);
        x.keep();
        x.people(3);
        x.tie(0, 1, 5, 4, false);
        Edge.due("back(), the first time", x.back(), 14);
        Edge.due("it stays", x.back(), 14);
        // what comes behind back() doesn't change what is kept
        x.cut(TIE, 0, 0);
        x.first(0, 9);
        x.seen(0, 1);
        x.seed(8);
        Edge.due("it stays as it was", x.back(), 14);
        Edge.due("no CUTS", x.many(2), 0);
        Edge.due("WEIGHT of 0", x.first(0, 1), 1);
        Edge.due("SEEN of 0", x.seen(0, -1), -9);
        Edge.due("z", x.seed(1), 1);
        x.people(4);
        Edge.due("kept anew", x.keep(), 1);
        x.people(2);
        Edge.due("the latest, without TIES", x.back(), 0);
        Edge.due("PEOPLE", x.many(0), 4);
        // ROWS are neither kept nor taken away
        HushTables y = Edge.chain(4);
        y.keep();
        y.prove(0, 3);
        y.alterRow(0, 0, 7);
        y.back();
        Edge.due("ROWS", y.many(4), 3);
        Edge.due("row(0, 0)", y.row(0, 0), 7);
    }

    private static void nothingKept() {
        HushTables x = Edge.chain(4);
        Edge.due("back()", x.back(), -3);
        Edge.due("the works stays", x.many(1), 3);
        HushTables y = new HushTables();
        Edge.due("of a new object", y.back(), -3);
        Edge.due("one PERSON may be kept", y.keep(), 1);
        Edge.due("and comes back", y.back(), 0);
        Edge.due("PEOPLE", y.many(0), 1);
    }
}
