/** For each promise of the document: ordinary calls, the edges that it names, and wrong numbers. */
public final class PromiseTest {
    private static int wrong = 0;
    private static int asked = 0;
    private static final int LOW = Integer.MIN_VALUE;
    private static final int HIGH = Integer.MAX_VALUE;

    private static void due(String what, long got, long want) {
        asked++;
        if (got != want) {
            wrong++;
            System.out.println(what + ": answered " + got + ", due is " + want);
        }
    }

    public static void main(String[] args) {
        aNewObject();
        feed();
        works();
        faults();
        people();
        tie();
        tieOf();
        first();
        cut();
        cutOfAndUncut();
        open();
        joinedAndSets();
        chanceAndReach();
        seenAndWho();
        fewest();
        between();
        small();
        sit();
        earlyAndCould();
        seedAndRun();
        guards();
        proveAndRows();
        judge();
        chair();
        meet();
        tell();
        best();
        sheetPutItem();
        shelfAndTaken();
        act();
        actParts();
        trace();
        many();
        keepAndBack();
        atTheLimits();
        System.out.println("PromiseTest: " + asked + " calls, " + wrong + " wrong");
        if (wrong != 0) {
            System.exit(1);
        }
    }

    // ---------------------------------------------------------------- helps

    private static void tape(HushTables x, String text) {
        for (int at = 0; at < text.length(); at += 8) {
            int n = Math.min(8, text.length() - at);
            long eight = 0;
            for (int i = n - 1; i >= 0; i--) {
                eight = eight << 8 | text.charAt(at + i);
            }
            x.feed(eight, n);
        }
    }

    private static int read(HushTables x, String text) {
        tape(x, text);
        return x.works();
    }

    private static HushTables of(String text) {
        HushTables x = new HushTables();
        if (read(x, text) < 0) {
            due("the text '" + text + "' is right", 0, 1);
        }
        return x;
    }

    private static void fault(String text, int place) {
        HushTables x = new HushTables();
        due("fault of '" + text + "'", read(x, text), -100 - place);
        due("the works stays behind '" + text + "'", x.many(0), 1);
        due("no ties behind '" + text + "'", x.many(1), 0);
        due("no cuts behind '" + text + "'", x.many(2), 0);
        due("the tape is used up by '" + text + "'", x.many(5), 0);
    }

    // ---------------------------------------------------------------- promises 1 to 7

    private static void aNewObject() {
        HushTables x = new HushTables();
        int[] counts = {1, 0, 0, 0, 0, 0, 0, 0};
        for (int what = 0; what < counts.length; what++) {
            due("1 many(" + what + ")", x.many(what), counts[what]);
        }
        due("1 back", x.back(), HushTables.NONE);
        due("1 weight", x.first(0, 1), 1);
        due("1 seen", x.seen(0, -1), -9);
        due("1 z", x.seed(1), 1);
        due("1 trace", x.trace(0), HushTables.NONE);
        for (int i = 0; i < 4; i++) {
            due("1 sheet " + i, x.item(i, 0, 0), -11);
            due("1 shelf " + i, x.taken(i, 0), -11);
        }
        due("1 joined", x.joined(0), 1);
    }

    private static void feed() {
        HushTables x = new HushTables();
        due("2 none", x.feed(0, 0), -1);
        due("2 nine", x.feed(0, 9), -1);
        due("2 below", x.feed(0, LOW), -1);
        due("2 above", x.feed(0, HIGH), -1);
        due("2 one", x.feed(-1L, 1), 1);
        due("2 eight", x.feed(-1L, 8), 9);
        for (int i = 0; i < 23; i++) {
            x.feed(0, 8);
        }
        due("2 how many", x.many(5), 193);
        due("2 too many", x.feed(0, 8), -2);
        due("2 bad ahead of full", x.feed(0, 9), -1);
        due("2 nothing came", x.many(5), 193);
        due("2 the last seven", x.feed(0, 7), 200);
        due("2 one too many", x.feed(0, 1), -2);
        due("2 a byte below 97 at the first place", x.works(), -100);
        due("2 used up", x.many(5), 0);
        // the lowest byte comes first: p, e, o, p, l, e, 2, ;
        due("2 order", x.feed(0x3b32656c706f6570L, 8), 8);
        due("2 order read", x.works(), 0);
        due("2 order people", x.many(0), 2);
        // the bytes above the n lowest do not come
        x.feed(0x41414141656c706fL << 16 | 0x6570L, 6);
        x.feed(0x4141414141413b33L, 2);
        due("2 only n", x.works(), 0);
        due("2 only n people", x.many(0), 3);
    }

    private static void works() {
        HushTables x = of("people 3;");
        due("3 people", x.many(0), 3);
        x.seed(77);
        x.seen(1, 1);
        x.tie(0, 1, 1, 4, false);
        x.prove(0, 1);
        due("3 rows", x.many(4), 1);
        due("3 a fault leaves all", read(x, "people 4;tie 0 0;"), -115);
        due("3 still seen", x.many(3), 1);
        due("3 still rows", x.many(4), 1);
        due("3 still ties", x.many(1), 1);
        due("3 text", read(x, "  people4;tie0 1worth07odds1must;tie 3 2;first 3weight 9;first 3 weight 0;"
                + "seat 1and 3 and 1;late 1 99;late 0 0;seat1;seat1 ; "), 2);
        int[] counts = {4, 2, 5, 0, 0, 0, 0, 0};
        for (int what = 0; what < counts.length; what++) {
            due("3 many(" + what + ")", x.many(what), counts[what]);
        }
        int[][] ties = {{0, 1, 7, 1, 1}, {2, 3, 1, 4, 0}};
        for (int i = 0; i < 2; i++) {
            for (int what = 0; what < 5; what++) {
                due("3 tieOf(" + i + ", " + what + ")", x.tieOf(i, what), ties[i][what]);
            }
        }
        int[][] cuts = {{5, 10, 0}, {4, 1, 99}, {4, 0, 0}, {5, 2, 0}, {5, 2, 0}};
        for (int i = 0; i < 5; i++) {
            for (int what = 0; what < 3; what++) {
                due("3 cutOf(" + i + ", " + what + ")", x.cutOf(i, what), cuts[i][what]);
            }
        }
        due("3 the later weight", x.first(3, 5), 0);
        due("3 other weights", x.first(2, 5), 1);
        due("3 z stays", x.seed(1), 77);
        due("3 new weights", read(x, "people 4;"), 0);
        due("3 weight again", x.first(3, 5), 1);
        due("3 most people", read(x, "people 10;tie 0 9;tie 9 8;"), 2);
        due("3 fourteen ties", read(x, "people 10;tie 0 1;tie 0 2;tie 0 3;tie 0 4;tie 0 5;tie 0 6;tie 0 7;tie 0 8;"
                + "tie 0 9;tie 1 2;tie 1 3;tie 1 4;tie 1 5;tie 1 6;late 13 5;"), 14);
        due("3 eight cuts", read(x, "people 1;seat 0;seat 0;seat 0;seat 0;seat 0;seat 0;seat 0;seat 0;"), 0);
        due("3 eight cuts many", x.many(2), 8);
        due("3 a full tape", read(x, "people 5;" + " ".repeat(191)), 0);
        due("3 a full tape, a number at its end", read(x, "people 5;" + " ".repeat(189) + "44"), -298);
        due("3 a full tape, more must come", read(x, "people 5;" + " ".repeat(188) + "tie"), -300);
        // what a tape held ahead of this one does not count
        due("3 a long number", read(x, "people 33;"), -107);
        due("3 a short one in its place", read(x, "people 3"), -108);
        due("3 blanks", read(x, "people      "), -112);
        due("3 fewer blanks", read(x, "people "), -107);
    }

    private static void faults() {
        fault("", 0);
        fault("   ", 3);
        fault("people", 6);
        fault("people ", 7);
        fault("peopl 3;", 0);
        fault("peoples 3;", 0);
        fault("peoplez 3;", 0);
        fault(" People 3;", 1);
        fault("3 people;", 0);
        fault("people;", 6);
        fault("people 0;", 7);
        fault("people 11;", 7);
        fault("people 003;", 7);
        fault("people 3", 8);
        fault("people 3 3;", 9);
        fault("people 3;;", 9);
        fault("people 3;tye 0 1;", 9);
        fault("people 3;people 3;", 9);
        fault("people 3;\ttie 0 1;", 9);
        fault("people_3;", 6);
        fault("people 3;tie", 12);
        fault("people 3;tie 3 1;", 13);
        fault("people 3;tie 0 3;", 15);
        fault("people 3;tie 1 1;", 15);
        fault("people 3;tie 01;", 15);
        fault("people 3;tie 0 1;tie 0 1;", 23);
        fault("people 3;tie 0 1;tie 1 0;", 23);
        fault("people 3;tie 0 1", 16);
        fault("people 3;tie 0 1 2;", 17);
        fault("people 3;tie 0 1 and;", 17);
        fault("people 3;tie 0 1 worth;", 22);
        fault("people 3;tie 0 1 worth 100;", 23);
        fault("people 3;tie 0 1 worth must;", 23);
        fault("people 3;tie 0 1 odds must;", 22);
        fault("people 3;tie 0 1 odds worth 3;", 22);
        fault("people 3;tie 0 1 odds 0;", 22);
        fault("people 3;tie 0 1 odds 5;", 22);
        fault("people 3;tie 0 1 worth 1 worth 1;", 25);
        fault("people 3;tie 0 1 odds 1 must odds 1;", 29);
        fault("people 3;tie 0 1 must must;", 22);
        fault("people 3;tie 0 1 mustodds 2;", 17);
        fault("people 3;tie 0 1 must odds 2 worth 3 must;", 37);
        fault("people 3;first 3 weight 1;", 15);
        fault("people 3;first 0 1;", 17);
        fault("people 3;first 0 worth 1;", 17);
        fault("people 3;first 0 weight 10;", 24);
        fault("people 3;first 0 weight;", 23);
        fault("people 3;first 0 weight 9", 25);
        fault("people 3;seat;", 13);
        fault("people 3;seat 3;", 14);
        fault("people 3;seat 0 1;", 16);
        fault("people 3;seat 0 and 3;", 20);
        fault("people 3;seat 0 and;", 19);
        fault("people 3;seat 0 and 1", 21);
        fault("people 3;late 0 1;", 14);
        fault("people 3;tie 0 1;late 1 1;", 22);
        fault("people 3;tie 0 1;late 0;", 23);
        fault("people 3;tie 0 1;late 0 100;", 24);
        fault("people 3;tie 0 1;late 0 1 1;", 26);
        fault("people 3;late 0 1;tie 0 1;", 14);
        fault("people 3;" + (char) 0, 9);
        fault("people 3;" + (char) 225, 9);
        String ties = "people 9;tie 0 1;tie 0 2;tie 0 3;tie 0 4;tie 0 5;tie 0 6;tie 0 7;tie 0 8;tie 1 2;tie 1 3;"
                + "tie 1 4;tie 1 5;tie 1 6;tie 1 7;";
        fault(ties + " tie 1 1;", ties.length() + 1);
        String cuts = "people 2;tie 0 1;seat 0;seat 0;seat 0;seat 0;seat 0;seat 0;seat 0;late 0 3;";
        fault(cuts + "seat 0;", cuts.length());
        fault(cuts + "late 9;", cuts.length());
    }

    private static void people() {
        HushTables x = of("people 4;tie 0 1 odds 2;seat 3;first 0 weight 5;");
        x.seed(9);
        x.seen(0, 1);
        x.prove(0, 1);
        due("4 none", x.people(0), -1);
        due("4 eleven", x.people(11), -1);
        due("4 below", x.people(LOW), -1);
        due("4 rows stay", x.many(4), 1);
        due("4 ten", x.people(10), 10);
        int[] counts = {10, 0, 0, 0, 0, 0, 0, 0};
        for (int what = 0; what < counts.length; what++) {
            due("4 many(" + what + ")", x.many(what), counts[what]);
        }
        due("4 weight", x.first(0, 1), 1);
        due("4 z stays", x.seed(1), 9);
        due("4 one", x.people(1), 1);
    }

    private static void tie() {
        HushTables x = new HushTables();
        x.people(10);
        due("5 below", x.tie(-1, 1, 0, 1, false), -1);
        due("5 above", x.tie(0, 10, 0, 1, false), -1);
        due("5 above, the first", x.tie(10, 0, 0, 1, false), -1);
        due("5 same", x.tie(3, 3, 0, 1, false), -1);
        due("5 worth below", x.tie(0, 1, -1, 1, false), -1);
        due("5 worth above", x.tie(0, 1, 100, 1, false), -1);
        due("5 odds below", x.tie(0, 1, 0, 0, false), -1);
        due("5 odds above", x.tie(0, 1, 0, 5, false), -1);
        due("5 far", x.tie(LOW, HIGH, 0, 1, false), -1);
        due("5 nothing came", x.many(1), 0);
        due("5 a tie", x.tie(9, 0, 99, 1, true), 0);
        due("5 again", x.tie(0, 9, 1, 1, false), -4);
        for (int i = 1; i < 14; i++) {
            int a = i < 9 ? 0 : 1;
            int b = i < 9 ? i : i - 7;
            due("5 tie " + i, x.tie(a, b, 0, 4, false), i);
        }
        due("5 full", x.tie(5, 6, 1, 1, false), -2);
        due("5 full ahead of state", x.tie(0, 9, 1, 1, false), -2);
        due("5 bad ahead of full", x.tie(0, 0, 1, 1, false), -1);
        due("5 how many", x.many(1), 14);
    }

    private static void tieOf() {
        HushTables x = new HushTables();
        due("6 none", x.tieOf(0, 0), -1);
        x.people(5);
        x.tie(4, 2, 33, 3, true);
        x.tie(1, 3, 0, 1, false);
        int[][] want = {{2, 4, 33, 3, 1}, {1, 3, 0, 1, 0}};
        for (int i = 0; i < 2; i++) {
            for (int what = 0; what < 5; what++) {
                due("6 tieOf(" + i + ", " + what + ")", x.tieOf(i, what), want[i][what]);
            }
        }
        due("6 what below", x.tieOf(0, -1), -1);
        due("6 what above", x.tieOf(0, 5), -1);
        due("6 tie below", x.tieOf(-1, 0), -1);
        due("6 tie above", x.tieOf(2, 0), -1);
        due("6 far", x.tieOf(HIGH, LOW), -1);
    }

    private static void first() {
        HushTables x = new HushTables();
        x.people(3);
        due("7 was 1", x.first(2, 9), 1);
        due("7 was 9", x.first(2, 0), 9);
        due("7 weight below", x.first(2, -1), -1);
        due("7 weight above", x.first(2, 10), -1);
        due("7 person below", x.first(-1, 1), -1);
        due("7 person above", x.first(3, 1), -1);
        due("7 was 0", x.first(2, 1), 0);
    }

    // ---------------------------------------------------------------- promises 8 to 13

    private static void cut() {
        HushTables x = of("people 3;tie 0 1;");
        due("8 kind 0", x.cut(0, 0, 0), -1);
        due("8 kind 7", x.cut(7, 0, 0), -1);
        due("8 no such tie", x.cut(1, 1, 0), -1);
        due("8 no such late tie", x.cut(4, 1, 0), -1);
        due("8 tie below", x.cut(4, -1, 0), -1);
        for (int kind : new int[] {2, 3, 5, 6}) {
            due("8 others in kind " + kind, x.cut(kind, 8, 0), -1);
            due("8 below in kind " + kind, x.cut(kind, -1, 0), -1);
        }
        for (int kind = 1; kind <= 6; kind++) {
            due("8 B below in kind " + kind, x.cut(kind, 0, -1), -1);
            due("8 B above in kind " + kind, x.cut(kind, 0, 100), -1);
        }
        due("8 tie", x.cut(1, 0, 99), 0);
        due("8 table", x.cut(2, 7, 1), 1);
        due("8 shift", x.cut(3, 0, 2), 2);
        due("8 late", x.cut(4, 0, 99), 3);
        due("8 seat", x.cut(5, 0, 4), 4);
        due("8 told", x.cut(6, 7, 5), 5);
        due("8 the same again", x.cut(6, 7, 5), 6);
        due("8 the eighth", x.cut(6, 7, 5), 7);
        due("8 full", x.cut(6, 7, 5), -2);
        due("8 bad ahead of full", x.cut(6, 8, 5), -1);
        due("8 how many", x.many(2), 8);
    }

    private static void cutOfAndUncut() {
        HushTables x = of("people 3;tie 0 1;");
        due("9 none", x.cutOf(0, 0), -1);
        due("10 none", x.uncut(), -3);
        x.cut(2, 5, 42);
        x.cut(4, 0, 7);
        int[][] want = {{2, 5, 42}, {4, 0, 7}};
        for (int i = 0; i < 2; i++) {
            for (int what = 0; what < 3; what++) {
                due("9 cutOf(" + i + ", " + what + ")", x.cutOf(i, what), want[i][what]);
            }
        }
        due("9 what below", x.cutOf(0, -1), -1);
        due("9 what above", x.cutOf(0, 3), -1);
        due("9 cut below", x.cutOf(-1, 0), -1);
        due("9 cut above", x.cutOf(2, 0), -1);
        due("10 one left", x.uncut(), 1);
        due("10 the latest is gone", x.cutOf(1, 0), -1);
        due("10 the other is there", x.cutOf(0, 0), 2);
        due("10 none left", x.uncut(), 0);
        due("10 none more", x.uncut(), -3);
    }

    private static void open() {
        // 0-1, 1-2 must, 2-3, 0-3 must
        HushTables x = of("people 4;tie 0 1;tie 1 2 must;tie 2 3;tie 0 3 must;");
        openAre(x, "no cut", 15);
        x.cut(1, 1, 50);
        openAre(x, "tie 1", 13);
        x.uncut();
        x.cut(2, 3, 0);
        openAre(x, "table 0 1: must ties stay", 15);
        x.uncut();
        x.cut(2, 1, 0);
        openAre(x, "table 0", 14);
        x.uncut();
        x.cut(3, 1, 0);
        openAre(x, "shift 0", 6);
        x.uncut();
        x.cut(3, 3, 0);
        openAre(x, "shift 0 1", 5);
        x.uncut();
        x.cut(5, 3, 0);
        openAre(x, "seat 0 1", 4);
        x.uncut();
        x.cut(6, 7, 0);
        openAre(x, "told 0 1 2", 12);
        x.cut(2, 0, 0);
        x.cut(3, 0, 0);
        x.cut(5, 0, 0);
        x.cut(6, 0, 0);
        openAre(x, "of none", 12);
        x.people(4);
        x.tie(0, 1, 0, 4, true);
        x.cut(4, 0, 3);
        due("11 ahead of late", x.open(0, 2), 1);
        due("11 late", x.open(0, 3), 0);
        due("11 late to the end", x.open(0, 99), 0);
        x.cut(4, 0, 1);
        due("11 the earlier late counts", x.open(0, 1), 0);
        due("11 day 0", x.open(0, 0), 1);
        x.cut(4, 0, 0);
        due("11 late from day 0", x.open(0, 0), 0);
        due("11 day below", x.open(0, -1), -1);
        due("11 day above", x.open(0, 100), -1);
        due("11 tie below", x.open(-1, 0), -1);
        due("11 tie above", x.open(1, 0), -1);
        due("11 far", x.open(LOW, HIGH), -1);
    }

    private static void openAre(HushTables x, String cuts, int want) {
        int got = 0;
        for (int tie = 0; tie < x.many(1); tie++) {
            got |= x.open(tie, 0) << tie;
            due("11 the last day as the first, " + cuts, x.open(tie, 99), x.open(tie, 0));
        }
        due("11 open ties by " + cuts, got, want);
    }

    private static void joinedAndSets() {
        HushTables x = of("people 7;tie 0 4;tie 4 2;tie 1 5;tie 5 6;late 3 1;");
        due("12 of 2", x.joined(2), 21);
        due("12 of 1, late ties join on day 0", x.joined(1), 98);
        due("12 alone", x.joined(3), 8);
        due("12 below", x.joined(-1), -1);
        due("12 above", x.joined(7), -1);
        due("13 how many", x.sets(0), 3);
        due("13 greatest", x.sets(1), 3);
        x.cut(4, 3, 0);
        due("13 cut", x.sets(0), 4);
        due("13 what below", x.sets(-1), -1);
        due("13 what above", x.sets(2), -1);
        due("12 ten alone", x.people(10), 10);
        due("13 ten alone", x.sets(0), 10);
        due("13 greatest alone", x.sets(1), 1);
        due("12 the last", x.joined(9), 512);
    }

    // ---------------------------------------------------------------- promises 14 to 17

    private static void fraction(String what, HushTables x, int p, int above, int below) {
        due(what + " above", x.chance(p, 0), above);
        due(what + " below", x.chance(p, 1), below);
    }

    private static void chanceAndReach() {
        // 0 -3/4- 1 -1/4- 2: 0 knows by 1/3 * (1 + 3/4 + 3/16)
        HushTables x = of("people 3;tie 0 1 odds 3;tie 1 2 odds 1;");
        fraction("14 of 0", x, 0, 31, 48);
        fraction("14 of 1", x, 1, 2, 3);
        fraction("14 of 2", x, 2, 23, 48);
        due("15 above", x.reach(0), 43);
        due("15 below", x.reach(1), 24);
        x.first(0, 0);
        x.first(1, 0);
        fraction("14 only 2 may be first", x, 2, 1, 1);
        fraction("14 of 1 then", x, 1, 1, 4);
        fraction("14 of 0 then", x, 0, 3, 16);
        due("15 above then", x.reach(0), 23);
        due("15 below then", x.reach(1), 16);
        x.cut(1, 1, 0);
        fraction("14 0 is 0 by 1", x, 0, 0, 1);
        due("15 one alone", x.reach(0), 1);
        due("15 one alone, below", x.reach(1), 1);
        x.first(2, 0);
        due("14 no weights", x.chance(0, 0), -3);
        due("15 no weights", x.reach(0), -3);
        due("14 person below", x.chance(-1, 0), -1);
        due("14 person above", x.chance(3, 0), -1);
        due("14 part below", x.chance(0, -1), -1);
        due("14 part above", x.chance(0, 2), -1);
        due("15 part below", x.reach(-1), -1);
        due("15 part above", x.reach(2), -1);
        tooManyUnsure();
        // a tie that is late from day 1 on tells all the same
        HushTables y = of("people 2;tie 0 1 odds 2;late 0 1;first 1 weight 0;");
        fraction("14 late", y, 1, 1, 2);
        y.cut(4, 0, 0);
        fraction("14 late from day 0", y, 1, 0, 1);
    }

    private static void tooManyUnsure() {
        HushTables x = new HushTables();
        x.people(10);
        for (int p = 1; p < 10; p++) {
            x.tie(0, p, 0, 1, false);
        }
        // 9 ties of 1/4 from the middle: (1 + 1/4 + 8/16) / 10 for one at the rim
        fraction("14 nine unsure", x, 5, 7, 40);
        // 13/4 from the middle, 7/4 from each of nine at the rim
        due("15 nine unsure, above", x.reach(0), 19);
        due("15 nine unsure, below", x.reach(1), 10);
        due("17 nine unsure", x.who(0, 1), 10);
        x.tie(1, 2, 0, 3, false);
        due("14 ten unsure", x.chance(0, 0), -4);
        due("15 ten unsure", x.reach(0), -4);
        due("17 ten unsure", x.who(0, 0), -4);
        x.cut(1, 9, 0);
        due("14 a cut tie is not unsure", x.chance(0, 0), 13);
        x.uncut();
        for (int p = 0; p < 10; p++) {
            x.first(p, 0);
        }
        due("14 none ahead of state", x.chance(0, 0), -3);
        due("15 none ahead of state", x.reach(0), -3);
        due("17 state ahead of none", x.who(0, 0), -4);
    }

    private static void seenAndWho() {
        HushTables x = of("people 3;tie 0 1 odds 3;tie 1 2 odds 1;");
        due("16 nothing", x.seen(1, 1), -9);
        due("16 one", x.seen(1, 0), 1);
        due("16 zero", x.seen(1, -1), 0);
        due("16 nothing again", x.seen(1, 1), -9);
        due("16 v below", x.seen(1, -2), -1);
        due("16 v above", x.seen(1, 2), -1);
        due("16 person below", x.seen(-1, 1), -1);
        due("16 person above", x.seen(3, 1), -1);
        due("16 it stays", x.seen(1, 1), 1);
        // 1 knows: first 0 by 3/4, first 1 by 1, first 2 by 1/4
        who("17 1 knows", x, 0, 3, 8);
        who("17 1 knows", x, 1, 1, 2);
        who("17 1 knows", x, 2, 1, 8);
        x.seen(2, 0);
        // first 0: 3/4 * 3/4, first 1: 3/4, first 2: 0
        who("17 and 2 does not", x, 0, 3, 7);
        who("17 and 2 does not", x, 1, 4, 7);
        who("17 and 2 does not", x, 2, 0, 1);
        x.first(0, 4);
        who("17 weights", x, 0, 3, 4);
        x.seen(0, 0);
        who("17 none at the ends", x, 1, 1, 1);
        x.seen(1, 0);
        due("17 nobody knows", x.who(0, 0), -3);
        x.seen(1, 1);
        x.seen(0, 1);
        x.seen(2, 1);
        x.cut(1, 1, 0);
        due("17 it can't be", x.who(1, 1), -3);
        x.seen(2, -1);
        who("17 it can", x, 2, 0, 1);
        for (int p = 0; p < 3; p++) {
            x.first(p, 0);
        }
        due("17 no weights", x.who(0, 0), -3);
        due("17 person below", x.who(-1, 0), -1);
        due("17 person above", x.who(3, 0), -1);
        due("17 part below", x.who(0, -1), -1);
        due("17 part above", x.who(0, 2), -1);
    }

    private static void who(String what, HushTables x, int p, int above, int below) {
        due(what + ", " + p + " above", x.who(p, 0), above);
        due(what + ", " + p + " below", x.who(p, 1), below);
    }

    // ---------------------------------------------------------------- promises 18 to 21

    private static void fewest() {
        // three ways of 0 to 3: dear and straight, and two cheap ones by 1 and by 2 that meet in 5
        HushTables x = of("people 6;tie 0 3 worth 90;tie 0 1 worth 1;tie 0 2 worth 1;tie 1 5 worth 2;tie 2 5 worth 2;"
                + "tie 5 3 worth 5;");
        due("18 ties", x.fewest(0, 3, 0), 2);
        due("18 worth", x.fewest(3, 0, 1), 92);
        due("18 not joined", x.fewest(0, 4, 0), 0);
        due("18 not joined, worth", x.fewest(0, 4, 1), 0);
        x.tie(3, 4, 7, 4, true);
        due("18 must", x.fewest(3, 4, 0), -3);
        due("18 must, worth", x.fewest(3, 4, 1), -3);
        due("18 around a must", x.fewest(0, 4, 0), 2);
        x.cut(1, 6, 0);
        due("18 a cut must is none", x.fewest(3, 4, 0), 0);
        x.cut(4, 0, 1);
        due("18 a late tie is open on day 0", x.fewest(0, 3, 0), 2);
        x.cut(4, 0, 0);
        due("18 fewer", x.fewest(0, 3, 0), 1);
        due("18 the fewest are not the cheapest", x.fewest(0, 3, 1), 2);
        due("18 same", x.fewest(1, 1, 0), -1);
        due("18 below", x.fewest(-1, 1, 0), -1);
        due("18 above", x.fewest(0, 6, 0), -1);
        due("18 what below", x.fewest(0, 1, -1), -1);
        due("18 what above", x.fewest(0, 1, 2), -1);
    }

    private static void between() {
        // 0 to 5 by 1-2, by 3, by 4: and 2-3
        HushTables x = of("people 7;tie 0 1;tie 1 2;tie 2 5;tie 0 3;tie 3 5;tie 0 4;tie 4 5;tie 2 3;");
        due("19 how many", x.between(0, 5, 0), 3);
        due("19 the least as bits", x.between(0, 5, 1), 26);
        due("19 from the other end", x.between(5, 0, 1), 26);
        due("19 not joined", x.between(0, 6, 0), 0);
        due("19 not joined, none", x.between(0, 6, 1), 0);
        due("19 a tie", x.between(0, 1, 0), -3);
        due("19 a tie, these", x.between(1, 0, 1), -3);
        x.cut(1, 0, 0);
        due("19 the tie is cut", x.between(0, 1, 0), 1);
        due("19 by 2", x.between(0, 1, 1), 4);
        x.cut(4, 5, 1);
        due("19 late is open on day 0", x.between(0, 4, 0), -3);
        due("19 same", x.between(1, 1, 0), -1);
        due("19 below", x.between(-1, 1, 0), -1);
        due("19 above", x.between(0, 7, 0), -1);
        due("19 what below", x.between(0, 5, -1), -1);
        due("19 what above", x.between(0, 5, 2), -1);
        due("19 bad ahead of none", x.between(0, 4, 2), -1);
    }

    private static void small() {
        // a row 0-1-2-3 of worth 9, 1, 9 and a cheap 0-3
        HushTables x = of("people 4;tie 0 1 worth 9;tie 1 2 worth 1;tie 2 3 worth 9;tie 0 3 worth 2;");
        due("20 by 2", x.small(2, 0), 2);
        due("20 by 2, worth", x.small(2, 1), 3);
        due("20 by 3: two ties all the same", x.small(3, 0), 2);
        due("20 by 3, worth", x.small(3, 1), 3);
        due("20 by 4", x.small(4, 0), 0);
        due("20 by 10", x.small(10, 1), 0);
        due("20 by 1", x.small(1, 0), 4);
        due("20 by 1, worth", x.small(1, 1), 21);
        x.cut(1, 0, 0);
        due("20 a tie less", x.small(2, 0), 1);
        due("20 the one tie is the dear one in the middle", x.small(2, 1), 9);
        x.uncut();
        // the fewest TIES come first, whatever they are worth
        HushTables y = of("people 4;tie 0 1 worth 99;tie 0 2 worth 0;tie 1 2 worth 0;tie 2 3 worth 1;");
        due("20 by 3", y.small(3, 0), 1);
        due("20 by 3, worth", y.small(3, 1), 1);
        HushTables z = of("people 3;tie 0 1 must;tie 1 2 must;");
        due("20 must", z.small(2, 0), -3);
        due("20 must, worth", z.small(2, 1), -3);
        due("20 must within", z.small(3, 0), 0);
        z.cut(1, 0, 0);
        due("20 a cut must", z.small(2, 0), 0);
        due("20 must by 1", z.small(1, 0), -3);
        due("20 m below", z.small(0, 0), -1);
        due("20 m above", z.small(11, 0), -1);
        due("20 what below", z.small(1, -1), -1);
        due("20 what above", z.small(1, 2), -1);
        z.people(8);
        due("20 eight", z.small(1, 0), -4);
        due("20 bad ahead of state", z.small(0, 0), -1);
        z.people(7);
        due("20 seven", z.small(1, 0), 0);
    }

    private static void sit() {
        HushTables x = of("people 4;tie 0 1 worth 9;tie 1 2 worth 5;tie 2 3 worth 9;tie 0 3 worth 3;");
        due("21 by 2", x.sit(2, 0), 18);
        due("21 by 2, partings", x.sit(2, 1), 1);
        due("21 by 3", x.sit(3, 0), 18);
        due("21 by 4", x.sit(4, 0), 26);
        due("21 by 1", x.sit(1, 0), 0);
        due("21 by 1, partings", x.sit(1, 1), 1);
        x.cut(5, 15, 0);
        due("21 cut ties count", x.sit(2, 0), 18);
        HushTables y = of("people 5;tie 0 1 worth 4;tie 1 2 worth 4;");
        due("21 one of two", y.sit(2, 0), 4);
        // 0 1 or 1 2 sit together; the other three are parted by 2 in 4 ways
        due("21 one of two, partings", y.sit(2, 1), 8);
        y.people(7);
        due("21 all partings of seven", y.sit(7, 1), 877);
        due("21 by 10", y.sit(10, 1), 877);
        due("21 by 2", y.sit(2, 1), 232);
        due("21 m below", y.sit(0, 0), -1);
        due("21 m above", y.sit(11, 0), -1);
        due("21 what below", y.sit(1, -1), -1);
        due("21 what above", y.sit(1, 2), -1);
        y.people(8);
        due("21 eight", y.sit(1, 0), -4);
        due("21 bad ahead of state", y.sit(1, 2), -1);
    }

    // ---------------------------------------------------------------- promises 22 to 30

    private static void earlyAndCould() {
        HushTables x = of("people 5;tie 0 1;tie 1 2;tie 2 3;tie 3 4;late 2 3;late 3 3;");
        due("22 himself", x.early(3, 3), 0);
        due("22 next", x.early(0, 1), 1);
        due("22 on the last open day", x.early(0, 3), 3);
        due("22 a day too late", x.early(0, 4), -3);
        due("22 from 1", x.early(1, 4), 3);
        due("22 back", x.early(4, 0), 4);
        due("22 below", x.early(-1, 0), -1);
        due("22 above", x.early(0, 5), -1);
        due("23 none", x.could(0, 0), 1);
        due("23 one", x.could(0, 1), 3);
        due("23 two", x.could(1, 2), 15);
        due("23 all days", x.could(0, 100), 15);
        due("23 below", x.could(0, -1), -1);
        due("23 above", x.could(0, 101), -1);
        due("23 nobody", x.could(5, 0), -1);
        due("23 nobody below", x.could(-1, 0), -1);
    }

    private static int next(int z) {
        return z * 1103515245 + 12345;
    }

    private static void seedAndRun() {
        HushTables x = of("people 3;tie 0 1 odds 2;tie 0 2 odds 4;tie 1 2 odds 1;");
        due("24 was 1", x.seed(LOW), 1);
        due("24 was low", x.seed(-5), LOW);
        due("24 was -5", x.seed(1), -5);
        due("25 no days", x.run(1, 0), 2);
        due("25 z stays then", x.seed(1), 1);
        // one day from 0: ties 0 and 1 throw, tie 2 does not
        int z = next(1);
        boolean told = (z >>> 16) % 4 < 2;
        z = next(z);
        due("25 one day", x.run(0, 1), told ? 7 : 5);
        due("25 z behind it", x.seed(1), z);
        due("25 nobody is left to tell", x.run(0, 20), 7);
        int behind = x.seed(3);
        due("25 days below", x.run(0, -1), -1);
        due("25 days above", x.run(0, 21), -1);
        due("25 person below", x.run(-1, 1), -1);
        due("25 person above", x.run(3, 1), -1);
        due("25 z stays when refused", x.seed(behind), 3);
        HushTables y = of("people 3;tie 1 2;tie 0 1;late 0 1;");
        due("25 one who is told today tells tomorrow, too late", y.run(0, 20), 3);
        // one throw, of tie 1 on day 0; tie 0 is cut from day 1 on
        due("25 one throw", y.seed(1), next(1));
        HushTables w = of("people 4;tie 0 1;tie 0 2;tie 1 3;tie 2 3;");
        due("25 two tell the same one", w.run(0, 2), 15);
        due("25 both threw", w.seed(1), next(next(next(next(1)))));
    }

    private static void guards() {
        // 0 in the middle of 1 and 2; behind 2 come 3 and 4
        HushTables x = of("people 5;tie 0 1;tie 0 2;tie 2 3;tie 2 4;");
        due("26 end", x.guards(0, 0), 2);
        due("26 whom", x.guards(0, 1), 2);
        due("26 from the rim: send 2", x.guards(3, 0), 1);
        due("26 from the rim, whom", x.guards(3, 1), 2);
        x.cut(5, 8, 0);
        due("26 nobody need be", x.guards(3, 1), -9);
        due("26 nobody need be, one knows", x.guards(3, 0), 1);
        x.uncut();
        due("26 person below", x.guards(-1, 0), -1);
        due("26 person above", x.guards(5, 0), -1);
        due("26 what below", x.guards(0, -1), -1);
        due("26 what above", x.guards(0, 2), -1);
        // of several the least: a row of three from the middle
        HushTables y = of("people 3;tie 1 2;tie 1 0;");
        due("26 of several", y.guards(1, 1), 0);
        due("26 of several, end", y.guards(1, 0), 2);
        // one who is not yet near may be the best to send: 0-1, 0-2, both with 3, behind which 4, 5, 6, 7 hang
        HushTables z = of("people 8;tie 0 1;tie 0 2;tie 1 3;tie 2 3;tie 3 4;tie 3 5;tie 3 6;tie 3 7;");
        due("26 far", z.guards(0, 0), 2);
        due("26 far, whom", z.guards(0, 1), 1);
        HushTables w = of("people 8;tie 0 1;tie 0 2;tie 0 3;tie 1 4;tie 2 4;tie 3 4;tie 4 5;tie 4 6;tie 4 7;");
        due("26 wide", w.guards(0, 0), 3);
        w.people(9);
        due("26 nine", w.guards(0, 0), -4);
        due("26 bad ahead of state", w.guards(0, 2), -1);
        due("26 late ties are open on day 0", of("people 2;tie 0 1;late 0 1;").guards(0, 1), 1);
    }

    private static void proveAndRows() {
        HushTables x = of("people 5;tie 0 2;tie 0 1;tie 2 3;tie 1 3;tie 3 4;late 4 3;");
        due("27 no rows at first", x.row(0, 0), -9);
        due("27 how many", x.prove(0, 4), 3);
        due("27 many", x.many(4), 3);
        int[][] want = {{0, 0, 1}, {1, 1, 3}, {2, 3, 4}};
        for (int i = 0; i < 3; i++) {
            for (int what = 0; what < 3; what++) {
                due("28 row(" + i + ", " + what + ")", x.row(i, what), want[i][what]);
            }
        }
        due("28 row below", x.row(-1, 0), -9);
        due("28 row above", x.row(3, 0), -9);
        due("28 what below", x.row(0, -1), -9);
        due("28 what above", x.row(0, 3), -9);
        due("29 was", x.alterRow(1, 1, 2), 1);
        due("29 is", x.row(1, 1), 2);
        due("29 far", x.alterRow(2, 2, LOW), 4);
        due("29 was far", x.alterRow(2, 2, HIGH), LOW);
        due("29 row below", x.alterRow(-1, 0, 5), -9);
        due("29 row above", x.alterRow(3, 0, 5), -9);
        due("29 what below", x.alterRow(0, -1, 5), -9);
        due("29 what above", x.alterRow(0, 3, 5), -9);
        due("27 person below", x.prove(-1, 0), -1);
        due("27 person above", x.prove(0, 5), -1);
        x.cut(1, 4, 0);
        due("27 he can't", x.prove(0, 4), -3);
        due("27 rows stay then", x.row(1, 1), 2);
        due("27 himself", x.prove(2, 2), 0);
        due("27 himself, no rows", x.many(4), 0);
        HushTables y = new HushTables();
        y.people(10);
        for (int p = 9; p > 0; p--) {
            y.tie(p, p - 1, 0, 1, false);
        }
        due("27 the longest", y.prove(9, 0), 9);
        due("28 the last of it", y.row(8, 2), 0);
        y.people(2);
        due("28 no rows in a new works", y.row(0, 0), -9);
    }

    private static void judge() {
        HushTables x = of("people 5;tie 0 1;tie 1 2;tie 2 3;tie 0 4;late 1 9;");
        due("30 none, unlike", x.judge(0, 1), 222);
        due("30 none, like", x.judge(1, 1), 0);
        x.prove(0, 3);
        due("30 right", x.judge(0, 3), 0);
        due("30 another end", x.judge(0, 2), 222);
        due("30 another one knew", x.judge(1, 3), 1);
        x.alterRow(1, 0, 8);
        due("30 the third is not above", x.judge(0, 3), 3);
        x.alterRow(2, 0, 99);
        due("30 later days are right", x.judge(0, 3), 0);
        x.alterRow(2, 0, 100);
        due("30 day 100", x.judge(0, 3), 3);
        x.alterRow(2, 0, 8);
        due("30 the same day", x.judge(0, 3), 3);
        x.alterRow(2, 0, 99);
        x.alterRow(1, 0, 9);
        due("30 the tie is cut", x.judge(0, 3), 2);
        x.alterRow(1, 0, 1);
        x.alterRow(0, 0, -1);
        due("30 day below", x.judge(0, 3), 1);
        x.alterRow(0, 0, 0);
        x.alterRow(1, 1, 0);
        due("30 from another", x.judge(0, 3), 2);
        x.alterRow(1, 1, 1);
        x.alterRow(0, 2, 4);
        due("30 the second is not from 4", x.judge(0, 3), 2);
        x.alterRow(0, 2, 3);
        due("30 no tie", x.judge(0, 3), 1);
        x.alterRow(0, 2, HIGH);
        due("30 to nobody", x.judge(0, 3), 1);
        x.alterRow(0, 2, 1);
        due("30 right again", x.judge(0, 3), 0);
        x.cut(1, 2, 0);
        due("30 as the ties are now", x.judge(0, 3), 3);
        due("30 person below", x.judge(-1, 3), -1);
        due("30 person above", x.judge(0, 5), -1);
    }

    // ---------------------------------------------------------------- promises 31 to 34

    private static void chair() {
        HushTables x = of("people 7;tie 0 1;tie 1 2;tie 2 3;tie 3 4;tie 4 5;tie 5 6;");
        due("31 the middle", x.chair(0), 3);
        due("31 the middle, size", x.chair(1), 3);
        x.cut(1, 5, 0);
        due("31 of several the least", x.chair(0), 2);
        due("31 of several, size", x.chair(1), 3);
        due("31 what below", x.chair(-1), -1);
        due("31 what above", x.chair(2), -1);
        x.people(1);
        due("31 one", x.chair(0), 0);
        due("31 one, size", x.chair(1), 0);
        x.people(2);
        due("31 two", x.chair(0), 0);
        due("31 two, size", x.chair(1), 1);
    }

    private static void meet() {
        HushTables x = of("people 6;tie 0 1;tie 1 4;tie 0 2;tie 2 4;tie 4 3;");
        due("32 how many", x.meet(17, 0), 3);
        due("32 the least as bits", x.meet(17, 1), 19);
        due("32 one", x.meet(8, 1), 8);
        due("32 all of them", x.meet(14, 1), 30);
        due("32 near", x.meet(24, 1), 24);
        due("32 it takes everybody", of("people 3;tie 0 2;tie 2 1;").meet(3, 1), 7);
        due("32 they can't", x.meet(33, 0), -3);
        due("32 they can't, these", x.meet(33, 1), -3);
        due("32 alone", x.meet(32, 0), 1);
        x.cut(1, 0, 0);
        due("32 the other way", x.meet(17, 1), 21);
        due("32 of none", x.meet(0, 0), -1);
        due("32 of others", x.meet(64, 0), -1);
        due("32 below", x.meet(-1, 0), -1);
        due("32 lowest", x.meet(LOW, 0), -1);
        due("32 what below", x.meet(1, -1), -1);
        due("32 what above", x.meet(1, 2), -1);
    }

    private static void tell() {
        HushTables x = of("people 7;tie 0 1;tie 1 2;tie 2 3;tie 3 4;tie 4 5;tie 5 6;");
        due("33 no days", x.tell(0, 0), 7);
        due("33 no days, these", x.tell(0, 1), 127);
        due("33 a day", x.tell(1, 0), 3);
        due("33 a day, the least as bits", x.tell(1, 1), 1 << 0 | 1 << 2 | 1 << 5);
        due("33 two days", x.tell(2, 0), 2);
        due("33 two days, these", x.tell(2, 1), 1 << 0 | 1 << 4);
        due("33 three days", x.tell(3, 1), 8);
        due("33 all days", x.tell(100, 1), 1);
        x.cut(4, 3, 1);
        due("33 3-4 only on day 0", x.tell(100, 1), 1 << 3);
        x.cut(4, 3, 0);
        due("33 3-4 on no day", x.tell(100, 1), 1 << 0 | 1 << 4);
        due("33 days below", x.tell(-1, 0), -1);
        due("33 days above", x.tell(101, 0), -1);
        due("33 what below", x.tell(1, -1), -1);
        due("33 what above", x.tell(1, 2), -1);
    }

    private static void best() {
        HushTables x = of("people 6;tie 0 1;tie 1 2;tie 2 3;tie 3 4;tie 4 5;");
        due("34 missing", x.best(0, 0), -11);
        x.sheet(0, 2, 4);
        x.put(0, 0, 1);
        x.put(0, 1, LOW | 1 << 14 | 2);
        x.put(0, 2, 4);
        x.put(0, 3, 4 | 1);
        due("34 place", x.best(0, 0), 2);
        due("34 size", x.best(0, 1), 3);
        x.sheet(1, 2, 1);
        due("34 one number", x.best(1, 0), 0);
        due("34 one number, size", x.best(1, 1), 6);
        x.put(0, 1, -1);
        due("34 all ties", x.best(0, 0), 1);
        due("34 all ties, size", x.best(0, 1), 1);
        x.cut(5, 63, 0);
        due("34 cut ties are none anyhow", x.best(0, 0), 0);
        x.sheet(1, 2, 0);
        due("34 no numbers", x.best(1, 0), -3);
        due("34 no numbers, size", x.best(1, 1), -3);
        for (int sort : new int[] {0, 1, 3}) {
            x.sheet(2, sort, 0);
            due("34 sort " + sort, x.best(2, 0), -13);
        }
        due("34 sheet below", x.best(-1, 0), -1);
        due("34 sheet above", x.best(4, 0), -1);
        due("34 what below", x.best(0, -1), -1);
        due("34 what above", x.best(0, 2), -1);
        due("34 bad ahead of missing", x.best(3, 2), -1);
    }

    // ---------------------------------------------------------------- promises 35 to 42

    private static void sheetPutItem() {
        HushTables x = new HushTables();
        due("35 sheet below", x.sheet(-1, 0, 1), -1);
        due("35 sheet above", x.sheet(4, 0, 1), -1);
        due("35 sort below", x.sheet(0, -2, 1), -1);
        due("35 sort above", x.sheet(0, 4, 1), -1);
        due("35 n above", x.sheet(0, 0, 41), -1);
        due("35 n below", x.sheet(0, 0, -1), -14);
        due("35 n far below", x.sheet(0, 0, LOW), -14);
        due("35 bad ahead of n", x.sheet(4, 0, -1), -1);
        due("35 missing, whatever n", x.sheet(0, -1, LOW), 1);
        due("35 missing, whatever n above", x.sheet(0, -1, HIGH), 1);
        due("36 missing", x.put(0, 0, 1), -11);
        due("37 missing", x.item(0, 0, 0), -11);
        int[] narrow = {0x78, 0x5678, 0x12345678, 0x12345678};
        int[] below = {(byte) 0x80, (short) 0x8080, 0x80808080, 0x80808080};
        for (int sort = 0; sort < 4; sort++) {
            due("35 sort " + sort, x.sheet(sort, sort, 40), 1);
            due("37 all 0", x.item(sort, sort, 39), 0);
            due("36 put", x.put(sort, 39, 0x12345678), 1);
            due("37 narrowed", x.item(sort, sort, 39), narrow[sort]);
            due("36 put below 0", x.put(sort, 0, 0x80808080), 1);
            due("37 narrowed below 0", x.item(sort, sort, 0), below[sort]);
            due("36 outside", x.put(sort, 40, 1), -12);
            due("36 outside below", x.put(sort, -1, 1), -12);
            due("37 outside", x.item(sort, sort, 40), -12);
            due("37 outside below", x.item(sort, sort, -1), -12);
            due("37 another sort", x.item(sort, (sort + 1) % 4, 0), -13);
            due("37 another sort ahead of outside", x.item(sort, (sort + 2) % 4, 40), -13);
            due("37 sort below", x.item(sort, -1, 0), -1);
            due("37 sort above", x.item(sort, 4, 0), -1);
        }
        due("36 sheet below", x.put(-1, 0, 0), -1);
        due("36 sheet above", x.put(4, 0, 0), -1);
        due("37 sheet below", x.item(-1, 0, 0), -1);
        due("37 sheet above", x.item(4, 0, 0), -1);
        due("35 refused", x.sheet(2, 2, -1), -14);
        due("35 nothing changed", x.item(2, 2, 39), 0x12345678);
        due("35 anew", x.sheet(2, 2, 40), 1);
        due("35 all 0 anew", x.item(2, 2, 39), 0);
        due("35 of none", x.sheet(2, 2, 0), 1);
        due("37 of none", x.item(2, 2, 0), -12);
        due("36 of none", x.put(2, 0, 0), -12);
    }

    private static void shelfAndTaken() {
        HushTables x = of("people 3;tie 0 1;");
        for (int kind = 1; kind <= 6; kind++) {
            x.cut(kind, 0, 0);
        }
        // for each KIND the ones that it is or is under
        int[] under = {0, 1 << 0 | 1 << 1, 1 << 0 | 1 << 2, 1 << 0 | 1 << 2 | 1 << 3, 1 << 0 | 1 << 1 | 1 << 4,
            1 << 0 | 1 << 2 | 1 << 3 | 1 << 5, 1 << 0 | 1 << 6};
        for (int kind = 1; kind <= 6; kind++) {
            due("38 cut", x.shelf(1, 0, kind - 1), 1);
            for (int as = 0; as <= 6; as++) {
                due("39 kind " + kind + " as " + as, x.taken(1, as), (under[kind] >> as & 1) != 0 ? kind - 1 : -13);
            }
            for (int as = 10; as <= 13; as++) {
                due("39 kind " + kind + " as " + as, x.taken(1, as), -13);
            }
        }
        for (int sort = 0; sort < 4; sort++) {
            x.sheet(3, sort, 5 + sort);
            due("38 row", x.shelf(2, 1, 3), 1);
            x.sheet(3, -1, 0);
            for (int as = 10; as <= 13; as++) {
                due("39 sort " + sort + " as " + as, x.taken(2, as), as - 10 == sort ? 5 + sort : -13);
            }
            due("39 a row as a cut", x.taken(2, 0), -13);
        }
        due("38 a missing row", x.shelf(2, 1, 3), 1);
        due("39 is nothing", x.taken(2, 10), -11);
        x.shelf(2, 0, 5);
        due("38 nothing, whatever n", x.shelf(2, 2, LOW), 1);
        due("39 nothing", x.taken(2, 0), -11);
        for (int as : new int[] {-1, 7, 8, 9, 14, LOW, HIGH}) {
            due("39 as " + as, x.taken(1, as), -1);
        }
        due("39 shelf below", x.taken(-1, 0), -1);
        due("39 shelf above", x.taken(4, 0), -1);
        due("38 shelf below", x.shelf(-1, 2, 0), -1);
        due("38 shelf above", x.shelf(4, 2, 0), -1);
        due("38 what below", x.shelf(0, -1, 0), -1);
        due("38 what above", x.shelf(0, 3, 0), -1);
        due("38 no such cut", x.shelf(0, 0, 6), -1);
        due("38 no such cut below", x.shelf(0, 0, -1), -1);
        due("38 no such sheet", x.shelf(0, 1, 4), -1);
        due("38 no such sheet below", x.shelf(0, 1, -1), -1);
        due("38 refused: as it was", x.taken(1, 6), 5);
        x.uncut();
        due("39 no such cut any more", x.taken(1, 6), -11);
        x.cut(3, 1, 0);
        due("39 another one that has its number", x.taken(1, 2), 5);
        x.people(2);
        due("39 a new works has no cuts", x.taken(1, 0), -11);
    }

    /** The thing of this KIND with number n and A, and what an ACT of it answers. */
    private static void acted(HushTables x, int act, int number, int want, int... bodies) {
        String what = "40 act(" + act + ", " + number + ") of kind " + x.cutOf(x.many(2) - 1, 0);
        x.shelf(0, 0, x.many(2) - 1);
        due(what, x.act(0, act, number), want);
        due(what + ", bodies", x.many(6), bodies.length);
        for (int i = 0; i < bodies.length; i++) {
            due(what + ", trace(" + i + ")", x.trace(i), bodies[i]);
        }
        due(what + ", no more", x.trace(bodies.length), -3);
    }

    private static void act() {
        HushTables x = of("people 4;tie 0 1;tie 1 2;tie 2 3;tie 0 3;tie 0 2;");
        x.cut(2, 0, 0);
        // tie, n 1, a 4
        x.cut(1, 4, 0);
        acted(x, 0, 5, 6, 10);
        acted(x, 1, 5, 8, 20, 11, 10);
        acted(x, 2, -7, -2, 12);
        acted(x, 3, 5, 8 ^ 4, 13, 20, 11, 10);
        x.uncut();
        // table, n 1, a 6: parts(x) = (x + 1) * 3
        x.cut(2, 6, 0);
        acted(x, 0, 5, 18, 30, 10);
        acted(x, 1, 5, 36, 11, 30, 10);
        acted(x, 2, 11, 2, 12);
        acted(x, 3, 5, (36 ^ 6) + 0, 31, 13, 11, 30, 10, 12);
        x.uncut();
        // shift, n 1, a 6: parts(x) = (x + 1) * 3 - 1, shares(x) = (x + 2) / 5 ^ 1
        x.cut(3, 6, 0);
        acted(x, 0, 5, 17, 41, 30, 10);
        acted(x, 1, 5, 34, 11, 41, 30, 10);
        acted(x, 2, 8, 3, 40, 12);
        acted(x, 3, 5, (34 ^ 6) + 1, 31, 13, 11, 41, 30, 10, 40, 12);
        x.uncut();
        // late, n 1, a 3: parts(x) = -(x + 1), costs(x) = parts(x) * 2 - 3 + parts(1)
        x.cut(4, 3, 9);
        acted(x, 0, 5, -6, 50, 10);
        acted(x, 1, 5, -17, 51, 20, 11, 50, 10, 50, 10);
        acted(x, 2, 9, 4, 12);
        acted(x, 3, 5, -17 ^ 3, 13, 51, 20, 11, 50, 10, 50, 10);
        x.uncut();
        // seat, n 1, a 6: costs(x) = parts(x) * 2 + shares(6)
        x.cut(5, 6, 0);
        acted(x, 0, 5, 17, 41, 30, 10);
        acted(x, 1, 5, 34 + 0, 60, 11, 41, 30, 10, 40, 12);
        acted(x, 2, 8, 3, 40, 12);
        acted(x, 3, 5, ((34 ^ 6) + 1) * 2, 61, 31, 13, 60, 11, 41, 30, 10, 40, 12, 40, 12);
        x.uncut();
        // seat, n 1, a 2: shares(2) = (2 + 2) / 1 ^ 1
        x.cut(5, 2, 0);
        acted(x, 1, 5, 34 + 5, 60, 11, 41, 30, 10, 40, 12);
        x.uncut();
        // told, n 1, a 6: parts(x) = x + 1 ^ 6, shares(x) = x / 5 + parts(6)
        x.cut(6, 6, 0);
        acted(x, 0, 5, 0, 70, 10);
        acted(x, 1, 8, 30, 11, 70, 10);
        acted(x, 2, 10, 3, 71, 12, 70, 10);
        acted(x, 3, 8, 30 ^ 6, 13, 11, 70, 10);
    }

    private static void actParts() {
        HushTables x = of("people 4;tie 0 1;tie 1 2;tie 2 3;");
        x.cut(2, 0, 0);
        acted(x, 2, 5, -15, 12);
        acted(x, 3, 5, -15, 31, 13, 11, 30, 10, 12);
        x.uncut();
        x.cut(5, 0, 0);
        // behind the parting by 0 nothing begins
        acted(x, 1, 5, -15, 60, 11, 41, 30, 10, 40, 12);
        acted(x, 3, 5, -15, 61, 31, 13, 60, 11, 41, 30, 10, 40, 12);
        x.uncut();
        x.cut(6, 0, 0);
        acted(x, 2, 5, -15, 71, 12);
        acted(x, 3, HIGH, (HIGH + 0) * 2, 13, 11, 70, 10);
        x.cut(1, 0, 0);
        // n 1, a 0: x by -1 wraps
        acted(x, 2, LOW, LOW, 12);
        acted(x, 0, HIGH, LOW, 10);
        due("40 shelf below is 0", x.act(-1, 0, 5), 0);
        due("40 no trace then", x.many(6), 0);
        acted(x, 0, 5, 6, 10);
        due("40 shelf above is 0", x.act(4, 0, 5), 0);
        due("40 no trace then, either", x.trace(0), -3);
        acted(x, 0, 5, 6, 10);
        due("40 act below is 0", x.act(0, -1, 5), 0);
        due("40 no trace of it", x.many(6), 0);
        acted(x, 0, 5, 6, 10);
        due("40 act above is 0", x.act(0, 4, 5), 0);
        due("40 no trace of it, either", x.many(6), 0);
        acted(x, 0, 5, 6, 10);
        due("40 nothing is 0", x.act(3, 0, 5), 0);
        due("40 no trace of nothing", x.many(6), 0);
        acted(x, 0, 5, 6, 10);
        x.sheet(0, 2, 3);
        x.shelf(3, 1, 0);
        due("40 a row is 0", x.act(3, 0, 5), 0);
        due("40 no trace of a row", x.many(6), 0);
        x.uncut();
        due("40 no such cut any more is 0", x.act(0, 0, 5), 0);
    }

    private static void trace() {
        HushTables x = of("people 2;tie 0 1;seat 0;");
        due("41 none", x.trace(0), -3);
        x.shelf(0, 0, 0);
        x.act(0, 0, 1);
        due("41 first", x.trace(0), 41);
        due("41 last", x.trace(2), 10);
        due("41 outside", x.trace(3), -3);
        due("41 below", x.trace(-1), -3);
        due("41 far", x.trace(LOW), -3);
        x.people(5);
        x.many(0);
        due("41 it stays until the next act", x.trace(0), 41);
    }

    private static void many() {
        HushTables x = of("people 5;tie 0 1 odds 3;tie 1 2 odds 1;tie 2 3 odds 2;tie 3 4;late 1 1;seat 3;");
        x.seen(0, 1);
        x.seen(2, 0);
        x.seen(4, 0);
        x.seen(4, -1);
        x.prove(0, 2);
        x.feed(0, 3);
        x.shelf(0, 0, 1);
        x.act(0, 0, 1);
        // the rows of 0, 1, 2 are none: tie 1 is cut from day 1 on
        int[] counts = {5, 4, 2, 2, 0, 3, 3, 2};
        for (int what = 0; what < counts.length; what++) {
            due("42 many(" + what + ")", x.many(what), counts[what]);
        }
        due("42 what below", x.many(-1), -1);
        due("42 what above", x.many(8), -1);
        due("42 far", x.many(LOW), -1);
    }

    // ---------------------------------------------------------------- promises 43 and 44

    private static void keepAndBack() {
        HushTables x = of("people 5;tie 0 1 odds 3 worth 8 must;tie 1 2;seat 4;first 2 weight 7;");
        due("44 nothing is kept", x.back(), -3);
        x.seed(50);
        x.seen(3, 1);
        x.prove(0, 1);
        x.feed(0, 2);
        due("43 keep", x.keep(), 1);
        x.sheet(0, 0, 3);
        x.shelf(0, 0, 0);
        x.act(0, 0, 1);
        x.feed(0, 2);
        x.seed(60);
        x.seen(3, 0);
        x.seen(2, 0);
        x.first(2, 1);
        x.tie(3, 4, 1, 1, false);
        x.cut(1, 0, 0);
        x.alterRow(0, 0, 33);
        due("44 back", x.back(), 2);
        int[] counts = {5, 2, 1, 1, 1, 4, 3, 1};
        for (int what = 0; what < counts.length; what++) {
            due("44 many(" + what + ")", x.many(what), counts[what]);
        }
        due("44 z", x.seed(1), 50);
        due("44 seen", x.seen(3, -1), 1);
        due("44 weight", x.first(2, 1), 7);
        due("44 cut", x.cutOf(0, 1), 16);
        due("44 rows stay as they are", x.row(0, 0), 33);
        due("44 sheets stay as they are", x.item(0, 0, 0), 0);
        due("44 shelves stay as they are", x.taken(0, 5), 0);
        due("44 another works", x.people(2), 2);
        due("44 another tie", x.tie(0, 1, 9, 2, false), 0);
        due("44 what was kept stays", x.back(), 2);
        int[] tie = {0, 1, 8, 3, 1};
        for (int what = 0; what < 5; what++) {
            due("44 tieOf(0, " + what + ")", x.tieOf(0, what), tie[what]);
        }
        due("44 z once more", x.seed(1), 50);
        x.people(3);
        due("43 keep anew", x.keep(), 1);
        x.people(4);
        due("44 the latest", x.back(), 0);
        due("44 the latest, people", x.many(0), 3);
        x.prove(0, 0);
        HushTables y = new HushTables();
        due("44 another object has nothing", y.back(), -3);
    }

    // ---------------------------------------------------------------- as much as a works can have

    private static void atTheLimits() {
        // a ring of ten with four ties across, and eight cuts that cut nothing on day 0
        HushTables x = new HushTables();
        x.people(10);
        for (int p = 0; p < 10; p++) {
            x.tie(p, (p + 1) % 10, 99, p < 9 ? 2 : 4, false);
        }
        for (int p = 0; p < 4; p++) {
            x.tie(p, p + 5, 99, 4, false);
        }
        for (int i = 0; i < 8; i++) {
            x.cut(4, 13, 99 - i);
        }
        due("12 all", x.joined(0), 1023);
        due("13 all", x.sets(1), 10);
        due("14 all sure ties tell", x.chance(9, 1) > 0 ? 1 : 0, 1);
        for (int p = 0; p < 10; p++) {
            x.first(p, 9);
        }
        due("15 it is at most everybody", x.reach(0) <= 10 * x.reach(1) ? 1 : 0, 1);
        due("17 nothing is seen", x.who(9, 1), 10);
        due("18 ties", x.fewest(4, 9, 0), 2);
        due("18 worth", x.fewest(4, 9, 1), 198);
        due("19 the two beside 4", x.between(4, 9, 1), 1 << 3 | 1 << 5);
        due("22 across", x.early(4, 9), 3);
        due("23 all", x.could(4, 100), 1023);
        due("27 rows", x.prove(4, 9), 3);
        due("28 the least teller", x.row(2, 1), 0);
        due("30 right", x.judge(4, 9), 0);
        due("31 nobody parts them", x.chair(1), 9);
        due("32 all", x.meet(1023, 0), 10);
        due("33 one", x.tell(100, 1), 1);
        due("42 unsure", x.many(7), 9);
        due("43 keep", x.keep(), 1);
        due("44 back", x.back(), 14);
        due("44 cuts", x.many(2), 8);
        due("25 sure ties tell on the first day", x.run(0, 1) & (1 | 1 << 5 | 1 << 9), 1 | 1 << 5 | 1 << 9);
        // all eight in a ring: one is sent away on each side in turn
        HushTables y = new HushTables();
        y.people(8);
        for (int p = 0; p < 8; p++) {
            y.tie(p, (p + 1) % 8, 1, 4, false);
        }
        due("26 ring", y.guards(0, 0), 2);
        due("26 ring, whom", y.guards(0, 1), 1);
        y.people(7);
        for (int p = 0; p < 7; p++) {
            y.tie(p, (p + 1) % 7, 99, 4, false);
            y.tie(p, (p + 2) % 7, 99, 4, false);
        }
        due("20 all apart", y.small(1, 1), 14 * 99);
        due("20 all apart, ties", y.small(1, 0), 14);
        due("21 all together", y.sit(7, 0), 14 * 99);
    }
}
