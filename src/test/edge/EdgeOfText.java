/** THE TAPE and its TEXT: Promises 2 and 3. */
final class EdgeOfText {
    private static final String FOURTEEN_TIES = "people 9;tie 0 1;tie 0 2;tie 0 3;tie 0 4;tie 0 5;tie 0 6;tie 0 7;"
            + "tie 0 8;tie 1 2;tie 1 3;tie 1 4;tie 1 5;tie 1 6;tie 1 7;";
    private static final String EIGHT_CUTS = "people 2;tie 0 1;seat 0;late 0 1;seat 0;late 0 2;seat 1;late 0 1;"
            + "seat 0;late 0 99;";
    private static final String EIGHT_SEATS = "people 2;seat 0;seat 1;seat 0;seat 1;seat 0;seat 1;seat 0;"
            + "seat 1 and 0;";

    private EdgeOfText() {
    }

    static void all() {
        terms();
        faults();
        feed();
        works();
    }

    private static void terms() {
        int t = Edge.TERMS;
        Edge.sentence(t, "THE TAPE takes bytes, 200 at most", EdgeOfText::twoHundredBytes);
        Edge.sentence(t, "works() uses it up", EdgeOfText::usedUp);
        Edge.sentence(t, "of worth, odds, must each once at most in a tie", EdgeOfText::eachOnce);
        Edge.sentence(t, "in any order", EdgeOfText::inAnyOrder);
        Edge.sentence(t, "without them WORTH 1, ODDS 4, not MUST", EdgeOfText::withoutThem);
        Edge.sentence(t, "(told again: the later one)", EdgeOfText::laterWeight);
        Edge.sentence(t, "(the same again, too)", EdgeOfText::sameAgain);
        Edge.sentence(t, "(told ahead) from a DAY on", EdgeOfText::lateToldAhead);
        Edge.sentence(t, "NUMBERS rows of digits (1 or 2)", EdgeOfText::oneOrTwoDigits);
        Edge.sentence(t, "NAMES are rows of letters a to z", EdgeOfText::lettersAToZ);
        Edge.sentence(t, "both as long as they go", EdgeOfText::asLongAsTheyGo);
        Edge.sentence(t, "blanks (32) part them", EdgeOfText::blanksAre32);
        Edge.sentence(t, "(needed between two NAMES, two NUMBERS alone)", EdgeOfText::neededAlone);
        Edge.sentence(t, "and stand elsewhere as one likes", EdgeOfText::elsewhereAsOneLikes);
    }

    private static void faults() {
        int t = Edge.TERMS;
        Edge.sentence(t, "the place (from 0) of the first byte of the first NAME, NUMBER or other byte that can't "
                + "stand there", EdgeOfText::cannotStandThere);
        Edge.sentence(t, "a PERSON or TIE that there isn't", EdgeOfText::noSuchPersonOrTie);
        Edge.sentence(t, "the second one of a TIE that is the first", EdgeOfText::secondIsTheFirst);
        Edge.sentence(t, "or whose TIE was told", EdgeOfText::tieWasTold);
        Edge.sentence(t, "worth, odds or must told before", EdgeOfText::toldBefore);
        Edge.sentence(t, "a NUMBER too great or too small", EdgeOfText::tooGreatOrSmall);
        Edge.sentence(t, "of more digits", EdgeOfText::moreDigits);
        Edge.sentence(t, "the first NAME of a fifteenth TIE", EdgeOfText::fifteenthTie);
        Edge.sentence(t, "of a ninth CUT", EdgeOfText::ninthCut);
        Edge.sentence(t, "or the end (how many bytes there are), if more must come", EdgeOfText::atTheEnd);
    }

    private static void feed() {
        Edge.sentence(2, "n bytes (1 to 8) come to THE TAPE", EdgeOfText::oneToEight);
        Edge.sentence(2, "the lowest of eight first", EdgeOfText::lowestFirst);
        Edge.sentence(2, "how many it has", EdgeOfText::howManyItHas);
        Edge.sentence(2, "BAD;", EdgeOfText::feedBad);
        Edge.sentence(2, "FULL: more than 200", EdgeOfText::feedFull);
    }

    private static void works() {
        Edge.sentence(3, "THE TAPE becomes THE WORKS: how many TIES", EdgeOfText::howManyTies);
        Edge.sentence(3, "-100 less its FAULT", EdgeOfText::hundredLess);
        Edge.sentence(3, "Nothing is SEEN then, there are no ROWS (z stays)", EdgeOfText::nothingSeenThen);
    }

    // ---------------------------------------------------------------- the tape

    private static void twoHundredBytes() {
        HushTables x = new HushTables();
        Edge.tape(x, "people 7;" + " ".repeat(191));
        Edge.due("bytes", x.many(5), 200);
        Edge.due("one more", x.feed(32, 1), -2);
        Edge.due("200 bytes are read", x.works(), 0);
        Edge.due("people", x.many(0), 7);
        HushTables y = new HushTables();
        Edge.tape(y, "people 7;" + " ".repeat(190) + "x");
        Edge.due("the last byte counts", y.works(), -100 - 199);
    }

    private static void usedUp() {
        HushTables x = new HushTables();
        Edge.tape(x, "people 3;");
        Edge.due("right", x.works(), 0);
        Edge.due("used up by a right one", x.many(5), 0);
        Edge.due("nothing is left of it", x.works(), -100);
        Edge.tape(x, "people 4,");
        Edge.due("wrong", x.works(), -108);
        Edge.due("used up by a wrong one", x.many(5), 0);
        Edge.due("again nothing is left", x.works(), -100);
        Edge.tape(x, "people");
        Edge.due("shorter than the one ahead: its bytes don't count", x.works(), -106);
        Edge.due("the works stays", x.many(0), 3);
        Edge.due("the tape takes 200 anew", feedAll(x, 25), 200);
    }

    private static int feedAll(HushTables x, int times) {
        int answer = 0;
        for (int i = 0; i < times; i++) {
            answer = x.feed(0x2020202020202020L, 8);
        }
        return answer;
    }

    private static void oneToEight() {
        for (int n = 1; n <= 8; n++) {
            Edge.due("feed(0, " + n + ")", new HushTables().feed(0, n), n);
        }
        HushTables x = new HushTables();
        // 'people3;' in three, with other bytes above those that count
        x.feed(0x7f7f7f6f6570L, 3);
        x.feed(0xff33656c70L, 4);
        x.feed(0xffffffffffffff3bL, 1);
        Edge.due("only n come", x.works(), 0);
        Edge.due("people", x.many(0), 3);
    }

    private static void lowestFirst() {
        HushTables x = new HushTables();
        x.feed(0x3b32656c706f6570L, 8);
        Edge.due("people2;", x.works(), 0);
        Edge.due("people", x.many(0), 2);
        x.feed(0x70656f706c65323bL, 8);
        Edge.due("the same from the other end", x.works(), -100);
        Edge.tape(x, "people2;");
        x.feed(0xffL, 1);
        Edge.due("a byte of 255 comes as one", x.works(), -108);
    }

    private static void howManyItHas() {
        HushTables x = new HushTables();
        Edge.due("3", x.feed(0, 3), 3);
        Edge.due("3 and 8", x.feed(0, 8), 11);
        Edge.due("3 and 8 and 1", x.feed(0, 1), 12);
    }

    private static void feedBad() {
        HushTables x = new HushTables();
        Edge.each("feed(0, #)", -1, n -> x.feed(0, n), 0, 9, -1, -8, 200, Edge.LOW, Edge.HIGH);
        Edge.due("no bytes came", x.many(5), 0);
    }

    private static void feedFull() {
        HushTables x = new HushTables();
        Edge.due("192 and 8", feedAll(x, 25), 200);
        Edge.each("200 and #", -2, n -> x.feed(0, n), 1, 8);
        Edge.due("all as it was", x.many(5), 200);
        HushTables y = new HushTables();
        feedAll(y, 24);
        y.feed(32, 1);
        Edge.due("193 and 8", y.feed(0, 8), -2);
        Edge.due("none of the eight came", y.many(5), 193);
        Edge.due("193 and 7", y.feed(0, 7), 200);
    }

    // ---------------------------------------------------------------- pieces of a text

    private static void tieIs(String text, int... want) {
        HushTables x = Edge.of("people 9;" + text);
        for (int what = 0; what < 5; what++) {
            Edge.due("'" + text + "', tieOf(0, " + what + ")", x.tieOf(0, what), want[what]);
        }
    }

    private static void eachOnce() {
        Edge.fault("people 2;tie 0 1 worth 1 worth 1;", 25);
        Edge.fault("people 2;tie 0 1 odds 1 odds 1;", 24);
        Edge.fault("people 2;tie 0 1 must must;", 22);
        // each TIE has its own
        HushTables x = Edge.of("people 3;tie 0 1 worth 2 odds 3 must;tie 1 2 worth 4 odds 1 must;");
        Edge.row("tieOf(0, #)", what -> x.tieOf(0, what), 0, 1, 2, 3, 1);
        Edge.row("tieOf(1, #)", what -> x.tieOf(1, what), 1, 2, 4, 1, 1);
    }

    private static void inAnyOrder() {
        tieIs("tie 2 1 worth 9 odds 3 must;", 1, 2, 9, 3, 1);
        tieIs("tie 2 1 worth 9 must odds 3;", 1, 2, 9, 3, 1);
        tieIs("tie 2 1 odds 3 worth 9 must;", 1, 2, 9, 3, 1);
        tieIs("tie 2 1 odds 3 must worth 9;", 1, 2, 9, 3, 1);
        tieIs("tie 2 1 must worth 9 odds 3;", 1, 2, 9, 3, 1);
        tieIs("tie 2 1 must odds 3 worth 9;", 1, 2, 9, 3, 1);
    }

    private static void withoutThem() {
        tieIs("tie 8 0;", 0, 8, 1, 4, 0);
        tieIs("tie 8 0 worth 0;", 0, 8, 0, 4, 0);
        tieIs("tie 8 0 odds 1;", 0, 8, 1, 1, 0);
        tieIs("tie 8 0 must;", 0, 8, 1, 4, 1);
        // not what a TIE of this number had in the works or the text ahead
        HushTables x = Edge.of("people 2;tie 0 1 worth 50 odds 2 must;");
        Edge.due("a fault behind must", Edge.read(x, "people 2;tie 0 1 worth 51 odds 3 must"), -100 - 37);
        Edge.due("the next text", Edge.read(x, "people 2;tie 0 1;"), 1);
        Edge.row("tieOf(0, #)", what -> x.tieOf(0, what), 0, 1, 1, 4, 0);
    }

    private static void laterWeight() {
        HushTables x = Edge.of("people 2;first 1 weight 5;first 0 weight 3;first 1 weight 0;");
        Edge.due("weight of 1", x.first(1, 9), 0);
        Edge.due("weight of 0", x.first(0, 9), 3);
        // what an earlier works had doesn't count
        Edge.read(x, "people 2;");
        Edge.due("weight of a new works", x.first(1, 9), 1);
    }

    private static void sameAgain() {
        HushTables x = Edge.of("people 3;seat 1 and 1 and 1;seat 1;seat 2 and 1 and 2;seat 2 and 0;");
        Edge.due("cuts", x.many(2), 4);
        Edge.due("the first PERSON comes behind and, too", x.cutOf(3, 1), 5);
        Edge.row("cutOf(#, 0)", cut -> x.cutOf(cut, 0), 5, 5, 5);
        Edge.row("cutOf(#, 1)", cut -> x.cutOf(cut, 1), 2, 2, 6);
        Edge.row("cutOf(#, 2)", cut -> x.cutOf(cut, 2), 0, 0, 0);
    }

    private static void lateToldAhead() {
        Edge.fault("people 3;late 0 5;tie 0 1;", 14);
        Edge.fault("people 3;tie 0 1;late 1 5;tie 1 2;", 22);
        HushTables x = Edge.of("people 3;tie 0 1;late 0 5;tie 1 2;late 1 99;late 0 0;");
        Edge.row("cutOf(#, 0)", cut -> x.cutOf(cut, 0), 4, 4, 4);
        Edge.row("cutOf(#, 1)", cut -> x.cutOf(cut, 1), 0, 1, 0);
        Edge.row("cutOf(#, 2)", cut -> x.cutOf(cut, 2), 5, 99, 0);
        Edge.due("the last TIE that may be", Edge.read(x, FOURTEEN_TIES + "late 13 1;"), 14);
        Edge.due("cutOf(0, 1)", x.cutOf(0, 1), 13);
    }

    // ---------------------------------------------------------------- names, numbers, blanks

    private static void oneOrTwoDigits() {
        HushTables x = Edge.of("people 05;tie 00 01 worth 09 odds 02;first 03 weight 07;seat 02 and 04;late 00 00;");
        Edge.due("people", x.many(0), 5);
        Edge.row("tieOf(0, #)", what -> x.tieOf(0, what), 0, 1, 9, 2, 0);
        Edge.due("weight of 3", x.first(3, 1), 7);
        Edge.due("seat", x.cutOf(0, 1), 20);
        Edge.due("late", x.cutOf(1, 2), 0);
        Edge.fault("people 005;", 7);
        Edge.fault("people ;", 7);
    }

    private static void lettersAToZ() {
        Edge.fault("People 3;", 0);
        Edge.fault("peoplE 3;", 0);
        Edge.fault("people 3;Tie 0 1;", 9);
        // those beside a and z, and beside 0 and 9, are other bytes
        Edge.fault("people`3;", 6);
        Edge.fault("people{3;", 6);
        Edge.fault("people/3;", 6);
        Edge.fault("people 3:;", 8);
        Edge.fault("people 3/;", 8);
        Edge.fault("people 3`;", 8);
        // a and z are letters: they make a NAME longer
        Edge.fault("peoplea 3;", 0);
        Edge.fault("peoplez 3;", 0);
        Edge.fault("people 3;tie 0 1 zmust;", 17);
        Edge.fault("people 3;tie 0 1 amust;", 17);
        // 0 and 9 are digits: they make a NUMBER longer
        Edge.fault("people 3;tie 0 100;", 15);
        Edge.fault("people 3;tie 0 199;", 15);
        Edge.due("worth 90", Edge.of("people 2;tie 0 1 worth 90;").tieOf(0, 2), 90);
        Edge.due("worth 09", Edge.of("people 2;tie 0 1 worth 09;").tieOf(0, 2), 9);
        anotherLetter();
    }

    /** With any one letter of it another one a NAME is no longer it. */
    private static void anotherLetter() {
        String text = "people 4;tie 0 1 worth 5 odds 2 must;first 1 weight 3;seat 0 and 2;late 0 9;";
        for (int i = 0; i < text.length(); i++) {
            if (isLetterAt(text, i)) {
                int begun = i;
                while (isLetterAt(text, begun - 1)) {
                    begun--;
                }
                String other = text.charAt(i) == 'q' ? "r" : "q";
                Edge.fault(text.substring(0, i) + other + text.substring(i + 1), begun);
                Edge.fault(text.substring(0, i) + text.substring(i + 1), begun);
            }
        }
    }

    private static void asLongAsTheyGo() {
        Edge.fault("peoples 3;", 0);
        Edge.fault("peopl 3;", 0);
        Edge.fault("people 3;ties 0 1;", 9);
        Edge.fault("people 3;ti e 0 1;", 9);
        Edge.fault("people 3;tie 0 1 mustworth 3;", 17);
        Edge.fault("people 3;seat 0 andand 1;", 16);
        Edge.fault("people 10;tie 0 123;", 16);
        // 10 is one NUMBER: the works has ten, not one
        Edge.due("people 10;", Edge.of("people 10;").many(0), 10);
        tieIs("tie 3 4worth12odds3must;", 3, 4, 12, 3, 1);
    }

    private static void blanksAre32() {
        for (int other : new int[] {0, 9, 10, 13, 31, 33, 127, 128, 160, 255}) {
            Edge.fault("people" + (char) other + "3;", 6);
            Edge.fault((char) other + "people 3;", 0);
            Edge.fault("people 3;" + (char) other, 9);
        }
        Edge.due("32", Edge.of(" people 3 ; ").many(0), 3);
    }

    private static void neededAlone() {
        HushTables x = Edge.of("people4;tie0 1worth5odds2must;first1weight3;seat0and2;late0 9;");
        Edge.row("tieOf(0, #)", what -> x.tieOf(0, what), 0, 1, 5, 2, 1);
        Edge.due("weight of 1", x.first(1, 1), 3);
        Edge.due("seat", x.cutOf(0, 1), 5);
        Edge.due("late", x.cutOf(1, 2), 9);
        // without it two NUMBERS are one: then another one must come
        Edge.fault("people 4;tie 01;", 15);
        Edge.fault("people 4;tie 0 1;late 00;", 24);
        Edge.fault("people 4;tie 0 1 mustodds 2;", 17);
    }

    private static void elsewhereAsOneLikes() {
        HushTables x = Edge.of("   people   4   ;   tie   0   1   worth   5   must   ;  first  1  weight  3  ;"
                + "  seat  0  and  2  ;  late  0  9  ;   ");
        Edge.row("tieOf(0, #)", what -> x.tieOf(0, what), 0, 1, 5, 4, 1);
        Edge.due("weight of 1", x.first(1, 1), 3);
        Edge.due("cuts", x.many(2), 2);
        Edge.fault("   people   4   ;   tie   0   9", 30);
        Edge.fault("      ", 6);
    }

    // ---------------------------------------------------------------- faults

    private static void cannotStandThere() {
        Edge.fault("tie 0 1;", 0);
        Edge.fault("3;", 0);
        Edge.fault(";", 0);
        Edge.fault("people people 3;", 7);
        Edge.fault("people;", 6);
        Edge.fault("people 3 3;", 9);
        Edge.fault("people 3 tie 0 1;", 9);
        Edge.fault("people 3;;", 9);
        Edge.fault("people 3;people 3;", 9);
        Edge.fault("people 3;5;", 9);
        Edge.fault("people 3;must;", 9);
        Edge.fault("people 3;weight 3;", 9);
        Edge.fault("people 3;and 1;", 9);
        Edge.fault("people 3;tie ;", 13);
        Edge.fault("people 3;tie 0;", 14);
        Edge.fault("people 3;tie 0 and 1;", 15);
        Edge.fault("people 3;tie 0 1 2;", 17);
        Edge.fault("people 3;tie 0 1 weight 2;", 17);
        Edge.fault("people 3;tie 0 1 worth;", 22);
        Edge.fault("people 3;tie 0 1 odds must;", 22);
        Edge.fault("people 3;tie 0 1 must 1;", 22);
        Edge.fault("people 3;tie 0 1 worth 1 1;", 25);
        Edge.fault("people 3;first weight 1;", 15);
        Edge.fault("people 3;first 0 worth 1;", 17);
        Edge.fault("people 3;first 0 1;", 17);
        Edge.fault("people 3;first 0;", 16);
        Edge.fault("people 3;first 0 weight ;", 24);
        Edge.fault("people 3;first 0 weight 1 1;", 26);
        Edge.fault("people 3;seat and 1;", 14);
        Edge.fault("people 3;seat 0 1;", 16);
        Edge.fault("people 3;seat 0 and;", 19);
        Edge.fault("people 3;seat 0 and 1 2;", 22);
        Edge.fault("people 3;tie 0 1;late;", 21);
        Edge.fault("people 3;tie 0 1;late 0;", 23);
        Edge.fault("people 3;tie 0 1;late 0 1 2;", 26);
        Edge.fault("people 3;tie 0 1;late 0 and 1;", 24);
        // the first one counts, whatever comes behind it
        Edge.fault("people 11;tie 0 0;?", 7);
        Edge.fault("people 3;tie 0 1 ? worth 100;", 17);
    }

    private static void noSuchPersonOrTie() {
        Edge.fault("people 3;tie 3 0;", 13);
        Edge.fault("people 3;tie 0 3;", 15);
        Edge.fault("people 3;tie 99 0;", 13);
        Edge.fault("people 3;first 3 weight 1;", 15);
        Edge.fault("people 3;seat 3;", 14);
        Edge.fault("people 3;seat 0 and 3;", 20);
        Edge.fault("people 3;late 0 1;", 14);
        Edge.fault("people 3;tie 0 1;late 1 1;", 22);
        Edge.fault("people 1;seat 1;", 14);
        Edge.due("the last one that there is", Edge.of("people 3;tie 2 1;first 2 weight 1;seat 2 and 2;late 0 1;")
                .many(2), 2);
        // those of the works ahead don't count
        HushTables x = Edge.of("people 9;tie 7 8;");
        Edge.due("a PERSON of the works ahead", Edge.read(x, "people 3;seat 8;"), -114);
        Edge.due("a TIE of the works ahead", Edge.read(x, "people 3;late 0 1;"), -114);
        Edge.due("it stays", x.tieOf(0, 1), 8);
    }

    private static void secondIsTheFirst() {
        Edge.fault("people 3;tie 0 0;", 15);
        Edge.fault("people 3;tie 2 02;", 15);
        Edge.fault("people 1;tie 0 0;", 15);
    }

    private static void tieWasTold() {
        Edge.fault("people 3;tie 0 1;tie 0 1;", 23);
        Edge.fault("people 3;tie 0 1;tie 1 0;", 23);
        Edge.fault("people 3;tie 0 1;tie 1 2;tie 0 2;tie 2 01 must;", 39);
        HushTables x = Edge.of("people 3;tie 0 1;");
        Edge.due("that of the works ahead doesn't count", Edge.read(x, "people 3;tie 0 1;"), 1);
    }

    private static void toldBefore() {
        Edge.fault("people 3;tie 0 1 worth 1 odds 1 worth 2;", 32);
        Edge.fault("people 3;tie 0 1 worth 1 odds 1 must worth 2;", 37);
        Edge.fault("people 3;tie 0 1 odds 1 worth 1 must odds 2;", 37);
        Edge.fault("people 3;tie 0 1 must odds 1 worth 1 must;", 37);
        // told before, though what it was told is the same, and though no NUMBER comes
        Edge.fault("people 3;tie 0 1 odds 1 odds;", 24);
        Edge.fault("people 3;tie 0 1 worth 1 worth", 25);
    }

    private static void tooGreatOrSmall() {
        Edge.fault("people 0;", 7);
        Edge.fault("people 00;", 7);
        Edge.fault("people 11;", 7);
        Edge.fault("people 99;", 7);
        Edge.due("people 1;", Edge.of("people 1;").many(0), 1);
        Edge.due("people 10;", Edge.of("people 10;").many(0), 10);
        Edge.fault("people 3;tie 0 1 odds 0;", 22);
        Edge.fault("people 3;tie 0 1 odds 5;", 22);
        tieIs("tie 0 1 odds 1 worth 0;", 0, 1, 0, 1, 0);
        tieIs("tie 0 1 odds 4 worth 99;", 0, 1, 99, 4, 0);
        Edge.fault("people 3;first 0 weight 10;", 24);
        Edge.due("weight 9", Edge.of("people 3;first 0 weight 9;").first(0, 1), 9);
        Edge.due("weight 0", Edge.of("people 3;first 0 weight 0;").first(0, 1), 0);
        Edge.due("late 99", Edge.of("people 3;tie 0 1;late 0 99;").open(0, 98), 1);
    }

    private static void moreDigits() {
        Edge.fault("people 010;", 7);
        Edge.fault("people 3;tie 000 1;", 13);
        Edge.fault("people 3;tie 0 001;", 15);
        Edge.fault("people 3;tie 0 1 worth 100;", 23);
        Edge.fault("people 3;tie 0 1 worth 001;", 23);
        Edge.fault("people 3;tie 0 1 odds 001;", 22);
        Edge.fault("people 3;first 000 weight 1;", 15);
        Edge.fault("people 3;first 0 weight 001;", 24);
        Edge.fault("people 3;seat 000;", 14);
        Edge.fault("people 3;seat 0 and 001;", 20);
        Edge.fault("people 3;tie 0 1;late 000 1;", 22);
        Edge.fault("people 3;tie 0 1;late 0 001;", 24);
        Edge.fault("people 3;tie 0 1;late 0 100;", 24);
        // as an int it would wrap to 3
        Edge.fault("people 4294967299;", 7);
        Edge.fault("people " + "0".repeat(192) + "3", 7);
    }

    private static void fifteenthTie() {
        Edge.due("fourteen", Edge.of(FOURTEEN_TIES).many(1), 14);
        int place = FOURTEEN_TIES.length();
        Edge.fault(FOURTEEN_TIES + "tie 2 3;", place);
        Edge.fault(FOURTEEN_TIES + "  tie 0 1;", place + 2);
        Edge.fault(FOURTEEN_TIES + "tie 9 9 ?", place);
        Edge.fault(FOURTEEN_TIES + "tie", place);
        Edge.due("other pieces may come", Edge.of(FOURTEEN_TIES + "first 0 weight 2;seat 1;late 13 2;").many(2), 2);
    }

    private static void ninthCut() {
        Edge.due("eight", Edge.of(EIGHT_CUTS).many(2), 8);
        HushTables seats = Edge.of(EIGHT_SEATS);
        Edge.due("eight seats", seats.many(2), 8);
        Edge.row("cutOf(#, 1)", cut -> seats.cutOf(cut, 1), 1, 2, 1, 2, 1, 2, 1, 3);
        Edge.fault(EIGHT_SEATS + "seat 0;", EIGHT_SEATS.length());
        int place = EIGHT_CUTS.length();
        Edge.fault(EIGHT_CUTS + "seat 0;", place);
        Edge.fault(EIGHT_CUTS + "late 0 1;", place);
        Edge.fault(EIGHT_CUTS + " seat 9;", place + 1);
        Edge.fault(EIGHT_CUTS + "late", place);
        Edge.due("other pieces may come", Edge.of(EIGHT_CUTS + "first 0 weight 2;").first(0, 1), 2);
    }

    /** Each beginning of a text: the end is its fault, or the NAME that was broken off, or it is right. */
    private static void atTheEnd() {
        String text = "people 4; tie 0 1 worth 5 odds 2 must ;first 1 weight 3;seat 0 and 2;late 0 9 ; ";
        for (int length = 0; length <= text.length(); length++) {
            String head = text.substring(0, length);
            int want = -100 - length;
            if (head.stripTrailing().endsWith(";")) {
                want = head.contains("must") ? 1 : 0;
            } else if (isLetterAt(text, length - 1) && isLetterAt(text, length)) {
                int begun = length - 1;
                while (isLetterAt(text, begun - 1)) {
                    begun--;
                }
                want = -100 - begun;
            }
            Edge.due("works() of '" + head + "'", Edge.read(new HushTables(), head), want);
        }
        Edge.fault("", 0);
        Edge.fault("people 3     ", 13);
        Edge.fault("people 3;tie 0 1" + " ".repeat(184), 200);
    }

    private static boolean isLetterAt(String text, int i) {
        return i >= 0 && i < text.length() && text.charAt(i) >= 'a' && text.charAt(i) <= 'z';
    }

    // ---------------------------------------------------------------- works()

    private static void howManyTies() {
        HushTables x = Edge.of(FOURTEEN_TIES);
        Edge.due("none", Edge.read(x, "people 1;"), 0);
        Edge.due("one PERSON", x.many(0), 1);
        Edge.due("no TIES", x.many(1), 0);
        Edge.due("fourteen", Edge.read(x, FOURTEEN_TIES), 14);
        Edge.row("tieOf(13, #)", what -> x.tieOf(13, what), 1, 7, 1, 4, 0);
        Edge.due("eight CUTS, ten PEOPLE", Edge.read(x, "people 10;tie 0 9;seat 9;seat 8;seat 7;seat 6;seat 5;seat 4;"
                + "seat 3;late 0 44;first 9 weight 7;"), 1);
        Edge.row("cutOf(7, #)", what -> x.cutOf(7, what), 4, 0, 44);
        Edge.due("WEIGHT of the tenth", x.first(9, 1), 7);
        Edge.due("one", Edge.read(x, "people 2;tie 0 1;seat 0;"), 1);
        Edge.due("one CUT", x.many(2), 1);
        Edge.due("no CUTS of the works ahead", Edge.read(x, "people 2;"), 0);
        Edge.due("no CUTS", x.many(2), 0);
    }

    private static void hundredLess() {
        HushTables x = Edge.chain(4);
        Edge.due("the first place", Edge.read(x, "?"), -100);
        Edge.due("of nothing", x.works(), -100);
        Edge.due("the second place", Edge.read(x, " ?"), -101);
        Edge.due("the last place", Edge.read(x, " ".repeat(199) + "?"), -299);
        Edge.due("the end of all", Edge.read(x, " ".repeat(200)), -300);
        Edge.due("the works stays", x.many(1), 3);
    }

    private static void nothingSeenThen() {
        HushTables x = Edge.chain(3);
        x.seen(0, 1);
        x.seen(1, 0);
        x.prove(0, 2);
        x.seed(-6);
        Edge.due("a fault", Edge.read(x, "people 3;tie 0 1;tie 1 2;."), -125);
        Edge.due("still SEEN", x.many(3), 2);
        Edge.due("still ROWS", x.many(4), 2);
        Edge.due("right", Edge.read(x, "people 3;tie 0 1;tie 1 2;"), 2);
        Edge.due("nothing is SEEN", x.many(3), 0);
        Edge.due("SEEN of 0", x.seen(0, -1), -9);
        Edge.due("no ROWS", x.many(4), 0);
        Edge.due("row(0, 0)", x.row(0, 0), -9);
        Edge.due("z stays", x.seed(1), -6);
    }
}
