/** The promises of the document one by one: ordinary inputs, its edges, and wrong inputs. */
public final class PromisesTest {
    private static final int NONE = -1;
    private static final int UNKNOWN = -101;
    private static final int OUTSIDE = -102;
    private static final int STATE = -103;
    private static final int FULL = -104;
    private static final int[] FAR = {-1, -2, Integer.MIN_VALUE, Integer.MAX_VALUE};

    private static int wrong = 0;
    private static int answers = 0;

    private static void due(String call, long want, long got) {
        answers++;
        if (got != want) {
            wrong++;
            System.out.println(call + " answered " + got + ", due is " + want);
        }
    }

    private static void write(SpellTables x, String page) {
        for (char character : page.toCharArray()) {
            x.letter(character);
        }
    }

    private static SpellTables withTable(String page) {
        SpellTables x = new SpellTables();
        write(x, page);
        due(page + ": table()", page.split(",").length, x.table());
        return x;
    }

    private static void setText(SpellTables x, String text) {
        write(x, text);
        due("text() of " + text, text.length(), x.text());
    }

    private interface Place {
        int at(int place);
    }

    /** Every place of it, and UNKNOWN before and behind it. */
    private static void dueAll(String call, Place got, int... want) {
        for (int place = 0; place < want.length; place++) {
            due(call + " at " + place, want[place], got.at(place));
        }
        due(call + " behind", UNKNOWN, got.at(want.length));
        for (int far : FAR) {
            due(call + " at " + far, UNKNOWN, got.at(far));
        }
    }

    private static int[] codes(String text) {
        return text.chars().toArray();
    }

    private static void example1() {
        SpellTables x = new SpellTables();
        int[] page = codes("aA,bAB,cB");
        for (int place = 0; place < page.length; place++) {
            due("example 1: letter", place + 1, x.letter(page[place]));
        }
        due("example 1: table()", 3, x.table());
        due("example 1: clash(1)", 2, x.clash(1));
        due("example 1: clashing(0, 0)", 0, x.clashing(0, 0));
        due("example 1: clashing(1, 0)", 1, x.clashing(1, 0));
        due("example 1: clash(5)", 2, x.clash(5));
        due("example 1: parting(1)", 1, x.parting(1));
        due("example 1: mark(0)", 1, x.mark(0));
    }

    private static void example2() {
        SpellTables x = new SpellTables();
        due("example 2: table()", -103, x.table());
        due("example 2: ways()", 1, x.ways());
        due("example 2: clash(0)", 1, x.clash(0));
        due("example 2: parting(0)", 0, x.parting(0));
        due("example 2: trial(1, 0, 0)", -103, x.trial(1, 0, 0));
        due("example 2: letter(97)", 1, x.letter(97));
        due("example 2: letter(65)", 2, x.letter(65));
        due("example 2: letter(97)", 3, x.letter(97));
        due("example 2: letter(66)", 4, x.letter(66));
        due("example 2: fault()", 2, x.fault());
        due("example 2: blank()", 4, x.blank());
        due("example 2: turn()", 0, x.turn());
        due("example 2: text()", 0, x.text());
        due("example 2: sign(0, 2, 0)", -101, x.sign(0, 2, 0));
        due("example 2: rule(0, 5)", -101, x.rule(0, 5));
        due("example 2: count(5)", 1, x.count(5));
    }

    private static void example3() {
        SpellTables x = new SpellTables();
        int[] page = codes("abX,aXX");
        for (int place = 0; place < page.length; place++) {
            due("example 3: letter", place + 1, x.letter(page[place]));
        }
        due("example 3: table()", 2, x.table());
        due("example 3: letter(97)", 1, x.letter(97));
        due("example 3: letter(98)", 2, x.letter(98));
        due("example 3: letter(97)", 3, x.letter(97));
        due("example 3: turn()", 2, x.turn());
        due("example 3: back(0)", 2, x.back(0));
        due("example 3: backAt(1)", 0, x.backAt(1));
        due("example 3: ways()", 3, x.ways());
        due("example 3: clashAt(1)", 88, x.clashAt(1));
    }

    private static void promise1NewObject() {
        SpellTables x = new SpellTables();
        for (int what = 0; what <= 6; what++) {
            due("new: count(" + what + ")", 0, x.count(what));
        }
        due("new: blank()", 0, x.blank());
        due("new: fault()", 0, x.fault());
        due("new: mark(0)", UNKNOWN, x.mark(0));
        due("new: drop(0)", UNKNOWN, x.drop(0));
        due("new: rule(0, 0)", UNKNOWN, x.rule(0, 0));
        due("new: ink(0)", UNKNOWN, x.ink(0));
        due("new: back(0)", 0, x.back(0));
        due("new: back(1)", NONE, x.back(1));
        due("new: ways()", 1, x.ways());
        due("new: first(0)", UNKNOWN, x.first(0));
        due("new: clash(5)", 0, x.clash(5));
        due("new: parting(1)", 0, x.parting(1));
        long hash = 1583;
        int[] values = {0, -1, 1, 1, -1, -1, -1, -1, 0, 0, 0, 0, 0, 0, 0, 0, 0, 0};
        for (int value : values) {
            hash = 31 * hash + value;
        }
        due("new: digest()", hash, x.digest());
        SpellTables other = new SpellTables();
        other.letter('a');
        due("another object's page", 0, x.count(1));
    }

    private static void promise2Letter() {
        SpellTables x = new SpellTables();
        due("letter(31)", OUTSIDE, x.letter(31));
        due("letter(127)", OUTSIDE, x.letter(127));
        for (int far : FAR) {
            due("letter(" + far + ")", OUTSIDE, x.letter(far));
        }
        due("no letter yet", 0, x.count(1));
        due("letter(32)", 1, x.letter(32));
        due("letter(126)", 2, x.letter(126));
        for (int size = 3; size <= 56; size++) {
            due("letter " + size, size, x.letter('A'));
        }
        due("letter 57", FULL, x.letter('A'));
        due("letter 57 that is out of range", OUTSIDE, x.letter(127));
        due("a full page stays", 56, x.count(1));
        due("blank() of a full page", 56, x.blank());
        due("letter after blank()", 1, x.letter('A'));
    }

    private static void promise3Blank() {
        SpellTables x = withTable("aA");
        setText(x, "AB");
        write(x, "abc");
        due("blank()", 3, x.blank());
        due("blank() again", 0, x.blank());
        due("the page is empty", 0, x.count(1));
        due("the text stays", 2, x.count(2));
        due("the table stays", 1, x.count(0));
    }

    private static void dueFault(String page, int want) {
        SpellTables x = new SpellTables();
        write(x, page);
        due("fault() of " + page, want, x.fault());
        due("fault() of " + page + " again", want, x.fault());
        due("the page stays", page.length(), x.count(1));
        boolean isTable = want == page.length() && page.matches(".*[A-Z]");
        due("table() of " + page, isTable ? page.split(",").length : STATE, x.table());
        due("the page after table()", isTable ? 0 : page.length(), x.count(1));
        due("the tables read", isTable ? 1 : 0, x.count(4));
    }

    private static void promise4Fault() {
        dueFault("", 0);
        dueFault("a", 1);
        dueFault("abc", 3);
        dueFault("abcd", 3);
        dueFault("abcABC", 6);
        dueFault("abcABCD", 6);
        dueFault("A", 0);
        dueFault(",", 0);
        dueFault(" ", 0);
        dueFault("a ", 1);
        dueFault("a,", 1);
        dueFault("aA,", 3);
        dueFault("aA,,", 3);
        dueFault("aA,B", 3);
        dueFault("aAa", 2);
        dueFault("aA'", 2);
        dueFault("aA@", 2);
        dueFault("aA[", 2);
        dueFault("a`", 1);
        dueFault("a{", 1);
        dueFault("aA;bB", 2);
        dueFault("aA,a", 4);
        dueFault("aA,aB", 4);
        dueFault("aA,aB,", 4);
        dueFault("aA,abB", 6);
        dueFault("abA,aB", 6);
        dueFault("abcA,abc", 8);
        dueFault("abcA,abcd", 8);
        dueFault("abcA,abcB", 8);
        dueFault("abcA,abc,", 8);
        dueFault("aA,bB,cC,dD,eE,fF,gG,hH", 23);
        dueFault("aA,bB,cC,dD,eE,fF,gG,hH,", 23);
        dueFault("aA,bB,cC,dD,eE,fF,gG,hH,iI", 23);
        dueFault("aA,bB,cC,dD,eE,fF,gG,aHH", 22);
        String longest = "aaaAAA,aabAAA,aacAAA,aadAAA,aaeAAA,aafAAA,aagAAA,aahAAA";
        dueFault(longest, 55);
        dueFault(longest + ",", 55);
        dueFault(longest + "A", 55);
    }

    private static void promise5Table() {
        SpellTables x = withTable("abX,aXX,bY");
        x.mark(1);
        setText(x, "XX'Y");
        write(x, "aA,aB");
        long before = x.digest();
        due("table() of no table", STATE, x.table());
        due("it changed nothing", before, x.digest());
        x.blank();
        before = x.digest();
        due("table() of no page", STATE, x.table());
        due("it changed nothing", before, x.digest());
        write(x, "zZ,yYY");
        due("table()", 2, x.table());
        due("rules", 2, x.count(0));
        due("the page is empty", 0, x.count(1));
        due("the text is empty", 0, x.count(2));
        due("nothing is marked", 0, x.count(3));
        due("tables read", 2, x.count(4));
        due("rule(1, 2)", 0, x.rule(1, 2));
        dueAll("the left side", place -> x.sign(0, 0, place), 'z');
        dueAll("the sign", place -> x.sign(1, 1, place), 'Y', 'Y');
        due("no third rule", UNKNOWN, x.rule(2, 0));
        SpellTables y = withTable("aA,bA,cB");
        due("clash(1)", 1, y.clash(1));
        due("parting(1)", 1, y.parting(1));
        write(y, "aA,bB,cB");
        due("table()", 3, y.table());
        dueAll("the least clash of the new table", y::clashAt, 'B');
        due("parting(1) of the new table", 2, y.parting(1));
    }

    private static void promise6Turn() {
        SpellTables x = withTable("aA,abB,abcC,cD");
        x.mark(3);
        write(x, "abcababc");
        due("turn()", 3, x.turn());
        dueAll("the text", x::ink, codes("CBC"));
        due("the page is empty", 0, x.count(1));
        write(x, "acc");
        due("turn()", 3, x.turn());
        dueAll("the text with marks", x::ink, codes("AD'D'"));
        write(x, "aab");
        x.letter('b');
        long before = x.digest();
        due("turn() that is stuck", -1003, x.turn());
        due("it changed nothing", before, x.digest());
        x.blank();
        write(x, "b");
        due("turn() that is stuck at once", -1000, x.turn());
        x.letter(' ');
        due("turn() of another character", STATE, x.turn());
        x.blank();
        for (String page : new String[] {"aA", "a'", "a,a", "`", "{"}) {
            write(x, page);
            due("turn() of " + page, STATE, x.turn());
            x.blank();
        }
        write(x, "aaaaaaaaaaab");
        due("turn() of 12", 11, x.turn());
        write(x, "aaaaaaaaaaaaa");
        due("turn() of 13", STATE, x.turn());
        x.blank();
        write(x, "bbbbbbbbbbbbb");
        due("turn() of 13 that would be stuck", STATE, x.turn());
        x.blank();
        due("turns", 3, x.count(5));
        due("turn() of none", 0, x.turn());
        due("the text is empty", 0, x.count(2));
        due("turns", 4, x.count(5));
        // the longest match is taken even where a shorter one would not be stuck
        SpellTables y = withTable("aA,abB,bcC");
        write(y, "abc");
        due("turn() that is stuck behind the longest match", -1002, y.turn());
        SpellTables z = withTable("aABC");
        z.mark(0);
        write(z, "aaaaaaaaaaaa");
        due("turn() to the longest text", 12, z.turn());
        due("its characters", 48, z.count(2));
        due("its last character", '\'', z.ink(47));
    }

    private static void promise7Text() {
        SpellTables x = withTable("aA");
        setText(x, "AZ''");
        dueAll("the text", x::ink, codes("AZ''"));
        due("the page is empty", 0, x.count(1));
        for (String page : new String[] {"Aa", "A,", "A ", "@", "[", "(", "&"}) {
            write(x, page);
            due("text() of " + page, STATE, x.text());
            due("the page stays", page.length(), x.count(1));
            due("the text stays", 4, x.count(2));
            x.blank();
        }
        due("texts", 1, x.count(6));
        due("text() of none", 0, x.text());
        due("the text is empty", 0, x.count(2));
        due("texts", 2, x.count(6));
        setText(x, "A".repeat(56));
        due("ink(55)", 'A', x.ink(55));
        due("ink(56)", UNKNOWN, x.ink(56));
    }

    private static void promise8Mark() {
        SpellTables x = withTable("aA,bA");
        setText(x, "A");
        due("ways()", 2, x.ways());
        due("clash(0)", 0, x.clash(0));
        due("mark(1)", 1, x.mark(1));
        due("the text stays", 1, x.count(2));
        due("ways()", 1, x.ways());
        due("clash(0)", 1, x.clash(0));
        due("rule(1, 2)", 1, x.rule(1, 2));
        due("rule(0, 2)", 0, x.rule(0, 2));
        due("mark(1) again", 0, x.mark(1));
        due("ways()", 2, x.ways());
        due("clash(0)", 0, x.clash(0));
        due("mark(2)", UNKNOWN, x.mark(2));
        for (int far : FAR) {
            due("mark(" + far + ")", UNKNOWN, x.mark(far));
        }
        due("marked", 0, x.count(3));
    }

    private static void promise9Drop() {
        SpellTables x = withTable("aA,bB,cC,dD");
        x.mark(0);
        x.mark(2);
        setText(x, "A'BC'D");
        due("drop(4)", UNKNOWN, x.drop(4));
        for (int far : FAR) {
            due("drop(" + far + ")", UNKNOWN, x.drop(far));
        }
        due("drop(1)", 3, x.drop(1));
        due("the text stays", 6, x.count(2));
        due("rule 0 is marked", 1, x.rule(0, 2));
        due("rule 1 is marked", 1, x.rule(1, 2));
        due("rule 2 is not marked", 0, x.rule(2, 2));
        dueAll("sign 1", place -> x.sign(1, 1, place), 'C', '\'');
        dueAll("left side 2", place -> x.sign(2, 0, place), 'd');
        due("stuck", 2, x.back(1));
        due("drop(0)", 2, x.drop(0));
        due("drop(1)", 1, x.drop(1));
        due("drop(0)", 0, x.drop(0));
        due("drop(0)", UNKNOWN, x.drop(0));
        due("stuck at the first", 0, x.back(1));
        due("ways()", 0, x.ways());
        due("a table without rules is clean", 1, x.clash(0));
        SpellTables y = withTable("aA,bA,cAA");
        due("parting(1)", NONE, y.parting(1));
        y.drop(2);
        due("parting(1) after drop", 1, y.parting(1));
        due("clash(5) after drop", 1, y.clash(5));
        due("clash(1)", 1, y.clash(1));
        y.drop(0);
        due("clash(1) after drop", NONE, y.clash(1));
        SpellTables z = withTable("aA,bB,cC,dD");
        for (int rule = 0; rule < 4; rule++) {
            z.mark(rule);
        }
        z.mark(1);
        due("drop(1) that is not marked", 3, z.drop(1));
        due("the others still are", 3, z.count(3));
        due("drop(2) that is marked", 2, z.drop(2));
        due("the others still are", 2, z.count(3));
    }

    private static void promise10Rule() {
        SpellTables x = withTable("aA,abABC,abcA,bAB");
        int[][] want = {{1, 1, 0, 3, 2}, {2, 3, 0, 0, 1}, {3, 1, 0, 3, 0}, {1, 2, 0, 1, 0}};
        for (int rule = 0; rule < want.length; rule++) {
            for (int what = 0; what <= 4; what++) {
                due("rule(" + rule + ", " + what + ")", want[rule][what], x.rule(rule, what));
            }
        }
        x.mark(2);
        due("a mark is no part of the right side", 1, x.rule(2, 1));
        due("marked", 1, x.rule(2, 2));
        due("a marked sign is no start of the others", 0, x.rule(2, 3));
        due("but begins with A", 3, x.rule(0, 3));
        due("rule(0, 5)", OUTSIDE, x.rule(0, 5));
        due("rule(4, 0)", UNKNOWN, x.rule(4, 0));
        due("rule(4, 5)", UNKNOWN, x.rule(4, 5));
        for (int far : FAR) {
            due("rule(0, " + far + ")", OUTSIDE, x.rule(0, far));
            due("rule(" + far + ", 0)", UNKNOWN, x.rule(far, 0));
            due("rule(" + far + ", 9)", UNKNOWN, x.rule(far, 9));
        }
    }

    private static void promise11Sign() {
        SpellTables x = withTable("abcXYZ,zA");
        dueAll("left side 0", place -> x.sign(0, 0, place), codes("abc"));
        dueAll("sign 0", place -> x.sign(0, 1, place), codes("XYZ"));
        x.mark(0);
        dueAll("marked sign 0", place -> x.sign(0, 1, place), codes("XYZ'"));
        dueAll("left side 0", place -> x.sign(0, 0, place), codes("abc"));
        dueAll("sign 1", place -> x.sign(1, 1, place), codes("A"));
        due("sign(2, 2, 9)", UNKNOWN, x.sign(2, 2, 9));
        due("sign(0, 2, 9)", OUTSIDE, x.sign(0, 2, 9));
        for (int far : FAR) {
            due("sign(" + far + ", 0, 0)", UNKNOWN, x.sign(far, 0, 0));
            due("sign(0, " + far + ", 0)", OUTSIDE, x.sign(0, far, 0));
        }
    }

    private static void promise12Ink() {
        SpellTables x = new SpellTables();
        dueAll("no text", x::ink);
        setText(x, "QX'");
        dueAll("the text", x::ink, codes("QX'"));
    }

    private static void promise13And14Back() {
        SpellTables x = withTable("aA,bAB,cAB,dBC");
        setText(x, "ABA");
        due("back(0)", 2, x.back(0));
        due("back(1)", NONE, x.back(1));
        dueAll("the smallest number of the longest", x::backAt, 1, 0);
        setText(x, "AABC");
        due("back(0) until stuck", 2, x.back(0));
        due("back(1)", 3, x.back(1));
        dueAll("the rules until stuck", x::backAt, 0, 1);
        due("ways() all the same", 1, x.ways());
        setText(x, "CA");
        due("back(0) of one that is stuck at once", 0, x.back(0));
        due("back(1)", 0, x.back(1));
        dueAll("no rules", x::backAt);
        due("text() of none", 0, x.text());
        due("back(0) of no text", 0, x.back(0));
        due("back(1) of no text", NONE, x.back(1));
        due("back(2)", OUTSIDE, x.back(2));
        for (int far : FAR) {
            due("back(" + far + ")", OUTSIDE, x.back(far));
        }
        x.mark(1);
        setText(x, "AB'AB");
        dueAll("with a mark", x::backAt, 1, 2);
        SpellTables y = withTable("aA");
        setText(y, "A".repeat(56));
        due("back(0) of the longest text", 56, y.back(0));
        due("backAt(55)", 0, y.backAt(55));
        due("backAt(56)", UNKNOWN, y.backAt(56));
    }

    private static void promise15And16Ways() {
        SpellTables x = withTable("aA,bAA");
        setText(x, "A".repeat(10));
        due("ways()", 89, x.ways());
        due("first(9)", 0, x.first(9));
        due("first(10)", UNKNOWN, x.first(10));
        setText(x, "A".repeat(56));
        due("ways() modulo 1000000", 365435296162L % 1000000L, x.ways());
        setText(x, "AB");
        due("ways() of none", 0, x.ways());
        dueAll("no first row", x::first);
        due("text() of none", 0, x.text());
        due("ways() of no text", 1, x.ways());
        dueAll("the empty row", x::first);
        SpellTables y = withTable("aAB,bA,cB,dBB");
        setText(y, "ABB");
        due("ways()", 3, y.ways());
        dueAll("the first row", y::first, 0, 2);
        setText(y, "BBAB");
        dueAll("the first row", y::first, 2, 2, 0);
        // the least rule is not taken where nothing can come behind it
        SpellTables z = withTable("aA,bAB,cC");
        setText(z, "AABC");
        dueAll("the first row", z::first, 0, 1, 2);
        // eight ways for each character: the number is 0 modulo 1000000 and never none
        SpellTables w = withTable("aA,bA,cB,dB,eB,fB,gB,hC");
        setText(w, "ABABABABABAB");
        due("ways() that is 0 modulo 1000000", 0, w.ways());
        dueAll("but has a first row", w::first, 0, 2, 0, 2, 0, 2, 0, 2, 0, 2, 0, 2);
        due("and 10 ^ 5 before", 100000, tenWays(w));
    }

    private static int tenWays(SpellTables x) {
        setText(x, "ABABABABAB");
        return x.ways();
    }

    private static void promise17To19Clash() {
        SpellTables x = withTable("aA,bAB,cB");
        int[] want = {0, 2, 2, 1, 2, 2};
        for (int what = 0; what < want.length; what++) {
            due("clash(" + what + ")", want[what], x.clash(what));
        }
        dueAll("the least clash", x::clashAt, 'A', 'B');
        dueAll("ONE", place -> x.clashing(0, place), 0, 2);
        dueAll("OTHER", place -> x.clashing(1, place), 1);
        x.mark(0);
        int[] clean = {1, NONE, NONE, NONE, NONE, 0};
        for (int what = 0; what < clean.length; what++) {
            due("clean: clash(" + what + ")", clean[what], x.clash(what));
        }
        dueAll("clean: no least clash", x::clashAt);
        dueAll("clean: no ONE", place -> x.clashing(0, place));
        dueAll("clean: no OTHER", place -> x.clashing(1, place));
        for (int far : new int[] {6, -1, Integer.MIN_VALUE, Integer.MAX_VALUE}) {
            due("clash(" + far + ")", OUTSIDE, x.clash(far));
            due("clashing(" + far + ", 0)", OUTSIDE, x.clashing(far, 0));
        }
        due("clashing(2, -1)", OUTSIDE, x.clashing(2, -1));
        SpellTables one = withTable("aA");
        due("one rule is clean", 1, one.clash(0));
        SpellTables same = withTable("aC,bB,cB,dB,eB");
        due("four rows", 4, same.clash(4));
        dueAll("the second of them", place -> same.clashing(1, place), 2);
        // of the clashes CC and BB the first by its characters, and ' before A
        SpellTables ties = withTable("aCC,bC,cB,dBB");
        dueAll("the first of two", ties::clashAt, codes("BB"));
        SpellTables marks = withTable("aAB,bA,cAB,dA");
        due("A has two rows", 1, marks.clash(1));
        marks.mark(1);
        marks.mark(3);
        dueAll("A' comes before AB", marks::clashAt, codes("A'"));
    }

    private static void longClash() {
        SpellTables x = withTable("aCBE,bA,cE,dEDA,eBEC,fDAC,gBED,hACB");
        x.mark(2);
        x.mark(4);
        due("a long clash", 16, x.clash(1));
        StringBuilder least = new StringBuilder();
        for (int place = 0; place < x.clash(1); place++) {
            least.append((char) x.clashAt(place));
        }
        setText(x, least.toString());
        due("it has two rows", 2, x.ways());
        due("as clash(4) says", 2, x.clash(4));
        StringBuilder one = new StringBuilder();
        StringBuilder other = new StringBuilder();
        for (int place = 0; place < x.clash(2); place++) {
            due("ONE is the first row", x.first(place), x.clashing(0, place));
            addSign(x, x.clashing(0, place), one);
        }
        for (int place = 0; place < x.clash(3); place++) {
            addSign(x, x.clashing(1, place), other);
        }
        due("ONE spells it", 1, one.toString().equals(least.toString()) ? 1 : 0);
        due("OTHER spells it", 1, other.toString().equals(least.toString()) ? 1 : 0);
        due("ONE comes before OTHER", 1, x.clashing(0, 0) < x.clashing(1, 0) ? 1 : 0);
    }

    private static void addSign(SpellTables x, int rule, StringBuilder spelled) {
        for (int place = 0; x.sign(rule, 1, place) != UNKNOWN; place++) {
            spelled.append((char) x.sign(rule, 1, place));
        }
    }

    private static void promise20And21Ahead() {
        SpellTables x = withTable("aAB,bABB,cBBA,dBAB,eA");
        String[] want = {"", "A", "B", "AB", "BA", "BB"};
        due("clash(5)", want.length, x.clash(5));
        dueAll("ahead", x::ahead, 0, 1, 1, 2, 2, 2);
        for (int ahead = 0; ahead < want.length; ahead++) {
            int number = ahead;
            dueAll("remainder " + ahead, place -> x.aheadAt(number, place), codes(want[ahead]));
        }
        due("aheadAt(6, 0)", UNKNOWN, x.aheadAt(6, 0));
        for (int far : FAR) {
            due("aheadAt(" + far + ", 0)", UNKNOWN, x.aheadAt(far, 0));
        }
        // a clean table can have remainders, and ' comes before the letters
        SpellTables y = withTable("aX,bX,cXY");
        y.mark(0);
        due("clean", 1, y.clash(0));
        dueAll("remainder 0", place -> y.aheadAt(0, place), '\'');
        dueAll("remainder 1", place -> y.aheadAt(1, place), 'Y');
        due("ahead(2)", UNKNOWN, y.ahead(2));
        SpellTables alone = withTable("aAA");
        dueAll("a sign is no other rule's", alone::ahead);
    }

    private static void duePart(String page, int number, int set) {
        SpellTables x = withTable(page);
        due(page + ": parting(0)", number, x.parting(0));
        due(page + ": parting(1)", set, x.parting(1));
        for (int rule = 0; rule < x.count(0); rule++) {
            x.mark(rule);
        }
        due(page + ": parting(1) whatever is marked", set, x.parting(1));
    }

    private static void promise22Parting() {
        duePart("aA,bB", 0, 0);
        duePart("aA,bA", 1, 1);
        duePart("aB,bA,cA", 1, 2);
        duePart("aA,bA,cA", NONE, NONE);
        duePart("aA,bA,cB,dB", 2, 5);
        duePart("aA,bAB,cB", 1, 1);
        duePart("aA,bA,cB,dB,eC,fC,gD,hD", 4, 85);
        SpellTables x = withTable("aA,bA");
        due("parting(2)", OUTSIDE, x.parting(2));
        for (int far : FAR) {
            due("parting(" + far + ")", OUTSIDE, x.parting(far));
        }
        due("nothing is marked by it", 0, x.count(3));
    }

    private static void dueTrial(SpellTables x, int times, int seed, int... want) {
        for (int what = 0; what < want.length; what++) {
            due("trial(" + times + ", " + seed + ", " + what + ")", want[what],
                    x.trial(times, seed, what));
        }
    }

    private static void promise23Trial() {
        SpellTables x = withTable("aAB,bA,cBC");
        long before = x.digest();
        // seed 0: x becomes 12345, so the first row has 1 + 0 rules; then 1406932606, so it is
        // rule 21468 modulo 3 = 0; it spells AB
        due("trial(1, 0, 0)", 1, x.trial(1, 0, 0));
        due("trial(1, 0, 1)", 0, x.trial(1, 0, 1));
        due("trial(1, 0, 2)", 0, x.trial(1, 0, 2));
        due("trial(1, 0, 3)", 2, x.trial(1, 0, 3));
        dueTrial(x, 2, 0, 2, 0, 0, 7);
        dueTrial(x, 40, 0, 33, 0, 7, 201);
        dueTrial(x, 40, Integer.MAX_VALUE, 31, 0, 9, 220);
        dueTrial(x, 7, 1, 6, 0, 1, 37);
        int all = x.trial(40, Integer.MAX_VALUE, 0) + x.trial(40, Integer.MAX_VALUE, 1)
                + x.trial(40, Integer.MAX_VALUE, 2);
        due("the results of 40", 40, all);
        due("more times spell more", 1, x.trial(40, 5, 3) > x.trial(39, 5, 3) ? 1 : 0);
        due("some are stuck: ABC", 1, x.trial(40, 1, 2) > 0 ? 1 : 0);
        due("trial(0, 0, 0)", OUTSIDE, x.trial(0, 0, 0));
        due("trial(41, 0, 0)", OUTSIDE, x.trial(41, 0, 0));
        due("trial(1, 0, 4)", OUTSIDE, x.trial(1, 0, 4));
        for (int far : new int[] {-1, Integer.MIN_VALUE}) {
            due("trial(1, " + far + ", 0)", OUTSIDE, x.trial(1, far, 0));
            due("trial(" + far + ", 1, 0)", OUTSIDE, x.trial(far, 1, 0));
            due("trial(1, 1, " + far + ")", OUTSIDE, x.trial(1, 1, far));
        }
        due("nothing changed", before, x.digest());
        SpellTables none = new SpellTables();
        due("no rules", STATE, none.trial(40, 0, 3));
        due("no rules and out of range", OUTSIDE, none.trial(41, 0, 3));
        SpellTables same = withTable("aA,bA");
        int times = same.trial(40, 3, 0) + same.trial(40, 3, 1);
        due("never stuck", 40, times);
        due("another row comes out", 1, same.trial(40, 3, 1) > 0 ? 1 : 0);
    }

    private static void promise24Count() {
        SpellTables x = withTable("aA,bB,cC");
        x.mark(0);
        x.mark(2);
        write(x, "ab");
        x.turn();
        setText(x, "ABC");
        setText(x, "ABCA");
        write(x, "12345");
        int[] want = {3, 5, 4, 2, 1, 1, 2};
        for (int what = 0; what < want.length; what++) {
            due("count(" + what + ")", want[what], x.count(what));
        }
        due("count(7)", OUTSIDE, x.count(7));
        for (int far : FAR) {
            due("count(" + far + ")", OUTSIDE, x.count(far));
        }
        x.table();
        x.turn();
        x.text();
        due("a table that failed", 1, x.count(4));
        due("a turn that failed", 1, x.count(5));
        due("a text that failed", 2, x.count(6));
        x.drop(0);
        due("a mark that was dropped", 1, x.count(3));
        x.blank();
        write(x, "xX");
        x.table();
        due("the totals stay after table()", 2, x.count(6));
    }

    private static void promise25Digest() {
        SpellTables x = withTable("aA,bAB,cB");
        setText(x, "AB");
        x.letter('!');
        int[] values = {
            1, 1, 0, 1, 0, 'a', 'A',
            1, 2, 0, 0, 0, 'b', 'A', 'B',
            1, 1, 0, 0, 0, 'c', 'B',
            'A', 'B',
            1, -1, 1,
            2, 0, 2,
            0, 2, 2, 1, 2, 2, 'A', 'B', 0, 2, 1,
            'B',
            1, 1,
            '!',
            3, 1, 2, 0, 1, 0, 1};
        long hash = 1583;
        for (int value : values) {
            hash = 31 * hash + value;
        }
        due("digest()", hash, x.digest());
        due("digest() again", hash, x.digest());
        x.mark(0);
        due("another state", 0, x.digest() == hash ? 1 : 0);
        x.mark(0);
        due("the state again", hash, x.digest());
    }

    public static void main(String[] args) {
        example1();
        example2();
        example3();
        promise1NewObject();
        promise2Letter();
        promise3Blank();
        promise4Fault();
        promise5Table();
        promise6Turn();
        promise7Text();
        promise8Mark();
        promise9Drop();
        promise10Rule();
        promise11Sign();
        promise12Ink();
        promise13And14Back();
        promise15And16Ways();
        promise17To19Clash();
        longClash();
        promise20And21Ahead();
        promise22Parting();
        promise23Trial();
        promise24Count();
        promise25Digest();
        System.out.println(answers + " answers, " + wrong + " not as due");
        if (wrong != 0) {
            System.exit(1);
        }
    }
}
