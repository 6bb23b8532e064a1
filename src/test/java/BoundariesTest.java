import java.io.IOException;
import java.math.BigInteger;
import java.nio.file.Files;
import java.nio.file.Path;

/**
 * A test for each sentence of the document that names a boundary case. Each names its promise (0:
 * what holds for all of them) and its sentence, which must stand word for word in that section.
 */
public final class BoundariesTest {
    private static final int NONE = -1;
    private static final int UNKNOWN = -101;
    private static final int OUTSIDE = -102;
    private static final int STATE = -103;
    private static final int FULL = -104;
    private static final int LEAST = Integer.MIN_VALUE;
    private static final int MOST = Integer.MAX_VALUE;
    private static final int PROMISES = 25;

    private static final String EIGHT = "aA,bB,cC,dD,eE,fF,gG,hH";
    /** As long as a table can be: 55 characters. */
    private static final String LONGEST =
            "aaaAAA,aabAAB,aacAAC,aadAAD,aaeAAE,aafAAF,aagAAG,aahAAH";

    private static final int[] tested = new int[PROMISES + 1];
    private static String[] sections = new String[0];
    private static String about = "";
    private static int answers = 0;
    private static int wrong = 0;

    private interface Call {
        int answer();
    }

    private interface Place {
        int at(int place);
    }

    // ---- what all the tests use

    private static void readDocument() throws IOException {
        Path document = Path.of("../shared/DOC.md");
        if (!Files.exists(document)) {
            return;
        }
        sections = Files.readString(document).split("## Promise \\d+:");
        for (int promise = 0; promise < sections.length; promise++) {
            sections[promise] = sections[promise].replaceAll("\\s+", " ");
        }
        about = "the document";
        due("its promises", PROMISES + 1, sections.length);
    }

    private static void sentence(int promise, String words) {
        about = "promise " + promise + ", \"" + words + "\"";
        tested[promise]++;
        if (promise < sections.length) {
            due("the sentence stands in the document", 1,
                    sections[promise].contains(words) ? 1 : 0);
        }
    }

    private static void due(String call, long want, long got) {
        answers++;
        if (got != want) {
            wrong++;
            System.out.println(about + ": " + call + " answered " + got + ", due is " + want);
        }
    }

    private static void refused(SpellTables x, String call, int want, Call made) {
        long before = x.digest();
        due(call, want, made.answer());
        due(call + ": what it changed", 0, x.digest() - before);
    }

    private static void write(SpellTables x, String page) {
        for (char character : page.toCharArray()) {
            x.letter(character);
        }
    }

    private static SpellTables withPage(String page) {
        SpellTables x = new SpellTables();
        write(x, page);
        due("letters of " + page, page.length(), x.count(1));
        return x;
    }

    private static SpellTables withTable(String page) {
        SpellTables x = withPage(page);
        due("table() of " + page, page.split(",").length, x.table());
        return x;
    }

    private static SpellTables withText(String page, String text) {
        SpellTables x = withTable(page);
        setText(x, text);
        return x;
    }

    private static void setText(SpellTables x, String text) {
        write(x, text);
        due("text() of " + text, text.length(), x.text());
    }

    private static void markAll(SpellTables x) {
        int rules = x.count(0);
        for (int rule = 0; rule < rules; rule++) {
            due("mark(" + rule + ")", 1, x.mark(rule));
        }
    }

    private static int[] codes(String text) {
        return text.chars().toArray();
    }

    /** What stands at each place, and UNKNOWN at the last before it and the first behind it. */
    private static void dueAll(String call, Place got, int... want) {
        for (int place = 0; place < want.length; place++) {
            due(call + " at " + place, want[place], got.at(place));
        }
        due(call + " behind its end", UNKNOWN, got.at(want.length));
        due(call + " far behind it", UNKNOWN, got.at(MOST));
        due(call + " before it", UNKNOWN, got.at(-1));
        due(call + " far before it", UNKNOWN, got.at(LEAST));
    }

    private static void dueTable(String page) {
        SpellTables x = withPage(page);
        due("fault() of " + page, page.length(), x.fault());
        due("table() of " + page, page.split(",").length, x.table());
        due("the page behind it", 0, x.count(1));
        dueRules(x, page);
    }

    private static void dueRules(SpellTables x, String page) {
        String[] rules = page.split(",");
        due("rules", rules.length, x.count(0));
        for (int rule = 0; rule < rules.length; rule++) {
            int number = rule;
            dueAll("left side " + rule, place -> x.sign(number, 0, place),
                    codes(rules[rule].replaceAll("[A-Z]", "")));
            dueAll("right side " + rule, place -> x.sign(number, 1, place),
                    codes(rules[rule].replaceAll("[a-z]", "")));
        }
    }

    /** A page that is no table, and the place of its fault; its length if more could follow. */
    private static void dueNoTable(String page, int fault) {
        SpellTables x = withText("zZ,yZ", "ZZ");
        x.mark(0);
        write(x, page);
        refused(x, "fault() of " + page, fault, x::fault);
        refused(x, "table() of " + page, STATE, x::table);
        due("the characters of the page stay", page.length(), x.count(1));
    }

    /** Pages that are tables so far; each needs something more. */
    private static void dueUnfinished(String page) {
        dueNoTable(page, page.length());
    }

    // ---- what holds for all promises

    private static void numberOfRules() {
        sentence(0, "A table has up to 8 rules, numbered from 0.");
        SpellTables none = new SpellTables();
        due("rules at first", 0, none.count(0));
        due("rule(0, 0) without rules", UNKNOWN, none.rule(0, 0));
        SpellTables x = withTable(EIGHT);
        due("rules", 8, x.count(0));
        dueAll("the rules", rule -> x.sign(rule, 0, 0), codes("abcdefgh"));
        dueNoTable(EIGHT + ",iI", 23);
    }

    private static void leftSides() {
        sentence(0, "A rule has a left side (1 to 3 letters a to z; all left sides are different)");
        for (String page : new String[] {"aX", "zX", "azX", "abcX", "zzzX"}) {
            dueTable(page);
        }
        for (String page : new String[] {"X", "`X", "{X", "AX", "'X"}) {
            dueNoTable(page, 0);
        }
        dueNoTable("a`X", 1);
        dueNoTable("a{X", 1);
        dueNoTable("abcdX", 3);
        dueTable("aX,aaX,aaaX");
        dueTable("aaaX,aaX,aX");
        dueTable("abX,baX");
        dueNoTable("aX,aY", 4);
        dueNoTable("aX,bX,aX", 7);
        dueNoTable("aX,bX,cX,dX,eX,fX,gX,gX", 22);
    }

    private static void rightSides() {
        sentence(0, "and a right side (1 to 3 letters A to Z).");
        for (String page : new String[] {"aA", "aZ", "aAZ", "aABC", "aZZZ", "aA,bA"}) {
            dueTable(page);
        }
        dueUnfinished("a");
        dueNoTable("a,", 1);
        dueNoTable("a@", 1);
        dueNoTable("a[", 1);
        dueNoTable("aA@", 2);
        dueNoTable("aA[", 2);
        dueNoTable("aA'", 2);
        dueNoTable("aABCD", 4);
    }

    private static void signs() {
        sentence(0, "The sign of a rule is its right side, followed by ' (apostrophe) if the rule"
                + " is marked.");
        SpellTables x = withTable("aX,bXYZ");
        dueAll("the shortest sign", place -> x.sign(0, 1, place), codes("X"));
        dueAll("three letters", place -> x.sign(1, 1, place), codes("XYZ"));
        markAll(x);
        dueAll("the shortest sign with a mark", place -> x.sign(0, 1, place), codes("X'"));
        dueAll("the longest sign", place -> x.sign(1, 1, place), codes("XYZ'"));
        x.mark(1);
        dueAll("without the mark", place -> x.sign(1, 1, place), codes("XYZ"));
    }

    private static void comparedByCodes() {
        sentence(0, "Texts are compared by the codes of their characters (so ' comes before A).");
        SpellTables x = withTable("aB,bB,cBA,dBA");
        x.mark(1);
        x.mark(3);
        // B is a start of B', BA and BA'; BA of BA'
        due("remainders", 3, x.clash(5));
        due("the first of length 1", '\'', x.aheadAt(0, 0));
        due("the second of length 1", 'A', x.aheadAt(1, 0));
        SpellTables y = withTable("aBA,bBA,cB,dB");
        y.mark(2);
        y.mark(3);
        dueAll("the least clash is B', not BA", y::clashAt, codes("B'"));
    }

    private static void pageSize() {
        sentence(0, "The page is a text of at most 56 characters.");
        SpellTables x = withPage("z".repeat(55));
        due("the last letter that it takes", 56, x.letter('z'));
        refused(x, "the first that it does not take", FULL, () -> x.letter('z'));
        due("its characters", 56, x.blank());
    }

    private static void pageAsTable() {
        sentence(0, "As a table it consists of one to eight rules separated by , (comma), each"
                + " written as its left side followed by its right side.");
        dueUnfinished("");
        dueTable("aA");
        dueTable("aA,bB");
        dueTable("aA,bB,cC,dD,eE,fF,gG");
        dueTable(EIGHT);
        dueTable(LONGEST);
        dueUnfinished("aA,");
        dueUnfinished("aA,b");
        dueUnfinished("aA,bB,cC,dD,eE,fF,gG,");
        dueUnfinished("aA,bB,cC,dD,eE,fF,gG,h");
        dueNoTable(EIGHT + ",", 23);
        dueNoTable(EIGHT + ",iI", 23);
        dueNoTable(",aA", 0);
        dueNoTable("aA,,bB", 3);
        dueNoTable("aA+bB", 2);
        dueNoTable("aA-bB", 2);
        dueNoTable("aA bB", 2);
        dueNoTable("aAbB", 2);
        dueNoTable("Aa", 0);
        dueNoTable("aA,Bb", 3);
    }

    private static void rows() {
        sentence(0, "A row is a sequence of rules (any of them, also repeatedly, also none).");
        SpellTables none = new SpellTables();
        due("the row of no rules", 1, none.ways());
        SpellTables x = withTable("aA,bB");
        due("rows that spell no text", 1, x.ways());
        setText(x, "B");
        dueAll("one rule and not the other", x::first, 1);
        setText(x, "AAABB");
        dueAll("each of them repeatedly", x::first, 0, 0, 0, 1, 1);
    }

    private static void orderOfRows() {
        sentence(0, "Rows are ordered lexicographically by the numbers of the rules.");
        SpellTables x = withText("aAB,bA,cB", "AB");
        dueAll("the shorter row is not the later one", x::first, 0);
        SpellTables y = withText("aA,bAB,cB", "AB");
        dueAll("the longer row is not the later one", y::first, 0, 2);
        SpellTables z = withText("aA,bBC,cB,dC", "ABC");
        dueAll("the first difference decides", z::first, 0, 1);
    }

    private static void theText() {
        sentence(0, "The text consists of letters A to Z and apostrophes; it is empty at first.");
        SpellTables x = new SpellTables();
        due("characters at first", 0, x.count(2));
        dueAll("no text", x::ink);
        setText(x, "AZ'");
        dueAll("the text", x::ink, codes("AZ'"));
    }

    private static void longestMatch() {
        sentence(0, "always the rule with the longest sign that stands at the place is taken (of"
                + " several the one with the smallest number)");
        SpellTables x = withText("aA,bAB,cABC,dABC,eABC", "ABC");
        dueAll("the first of the longest", x::backAt, 2);
        setText(x, "ABA");
        dueAll("the longest that stands there", x::backAt, 1, 0);
        x.mark(1);
        setText(x, "AB'AB");
        dueAll("a mark makes it longer", x::backAt, 1, 0);
    }

    private static void untilTheEnd() {
        sentence(0, "until the end is reached or no sign stands at the place; then it is stuck.");
        SpellTables x = withText("aA,bABC", "AAA");
        due("the end is reached", NONE, x.back(1));
        setText(x, "ABC");
        due("a sign up to the end", NONE, x.back(1));
        dueAll("its decoding", x::backAt, 1);
        setText(x, "AAB");
        due("a sign that goes beyond the end does not stand there", 2, x.back(1));
        dueAll("its decoding", x::backAt, 0, 0);
        setText(x, "BA");
        due("stuck at the first place", 0, x.back(1));
        setText(x, "A'");
        due("stuck at the last place", 1, x.back(1));
    }

    private static void encoding() {
        sentence(0, "Encoding by longest match works in the same way, with the left sides.");
        SpellTables x = withTable("aA,abB,abcC");
        write(x, "abcaba");
        due("turn()", 3, x.turn());
        dueAll("the longest first", x::ink, codes("CBA"));
        write(x, "aabc");
        due("turn() up to the end", 2, x.turn());
        write(x, "aabb");
        refused(x, "turn() that is stuck at the last place", -1003, x::turn);
        x.blank();
        SpellTables y = withTable("aA,bcB");
        write(y, "aab");
        refused(y, "a left side that goes beyond the end", -1002, y::turn);
    }

    private static void cleanTables() {
        sentence(0, "A clash is a pair of different rows that spell the same text. The table is"
                + " clean if there is no clash.");
        due("no rules", 1, new SpellTables().clash(0));
        due("one rule", 1, withTable("aAA").clash(0));
        due("two rules with one sign", 0, withTable("aA,bA").clash(0));
        due("AB and ABC without C", 1, withTable("aAB,bABC").clash(0));
        due("AB, ABC and C", 0, withTable("aAB,bABC,cC").clash(0));
        due("A and AAA: AAA", 0, withTable("aA,bAAA").clash(0));
        due("remainders and yet clean", 1, withTable("aA,bAB,cBB").clash(0));
    }

    private static void leastClash() {
        sentence(0, "The least clash is the shortest text that is spelled by two or more rows; of"
                + " several of the same length the first one by its characters.");
        dueAll("the shorter one, Z, not AA", withTable("aA,bAA,cZ,dZ")::clashAt, 'Z');
        dueAll("the first of AA and BB", withTable("aBB,bB,cAA,dA")::clashAt, 'A', 'A');
        dueAll("the first of BB and BA", withTable("aB,bBB,cBA,dA")::clashAt, 'B', 'A');
        dueAll("the first of BC and AC", withTable("aBC,bB,cAC,dA,eC")::clashAt, 'A', 'C');
        SpellTables x = withTable("aAA,bAAA");
        dueAll("AA and AAA in either order", x::clashAt, codes("AAAAA"));
    }

    private static void oneAndOther() {
        sentence(0, "Of the rows that spell it, let the first one be called ONE and the second one"
                + " OTHER.");
        SpellTables two = withTable("aA,bA");
        dueAll("the first of two", place -> two.clashing(0, place), 0);
        dueAll("the second of two", place -> two.clashing(1, place), 1);
        SpellTables eight = withTable("aA,bA,cA,dA,eA,fA,gA,hA");
        dueAll("the first of eight", place -> eight.clashing(0, place), 0);
        dueAll("the second of eight", place -> eight.clashing(1, place), 1);
        SpellTables three = withTable("aAB,bA,cAB,dB");
        dueAll("the first of three", place -> three.clashing(0, place), 0);
        dueAll("the second of three", place -> three.clashing(1, place), 1, 3);
        SpellTables y = withTable("aAAA,bAA");
        dueAll("ONE", place -> y.clashing(0, place), 0, 1);
        dueAll("OTHER", place -> y.clashing(1, place), 1, 0);
    }

    private static void dueRemainders(SpellTables x, String... want) {
        due("remainders", want.length, x.clash(5));
        int[] sizes = new int[want.length];
        for (int ahead = 0; ahead < want.length; ahead++) {
            int number = ahead;
            sizes[ahead] = want[ahead].length();
            dueAll("remainder " + want[ahead], place -> x.aheadAt(number, place),
                    codes(want[ahead]));
        }
        dueAll("the remainders", x::ahead, sizes);
    }

    private static void orderOfRemainders() {
        sentence(0, "each counted once, ordered by length, and those of the same length by their"
                + " characters");
        dueRemainders(new SpellTables());
        dueRemainders(withTable("aA,bB"));
        dueRemainders(withTable("aA,bAB,cAB,dAB"), "", "B");
        dueRemainders(withTable("aA,bAZZ,cAZ,dAY,eABC"), "Y", "Z", "BC", "ZZ");
    }

    private static void remaindersOfTwoSigns() {
        sentence(0, "what is left of the latter behind this prefix (the empty text if they are"
                + " equal)");
        dueRemainders(withTable("aA"));
        dueRemainders(withTable("aA,bA"), "");
        dueRemainders(withTable("aABC,bA"), "BC");
        SpellTables x = withTable("aA,bABC");
        x.mark(1);
        dueRemainders(x, "BC'");
    }

    private static void remaindersOfSigns() {
        sentence(0, "if a remainder that is not empty is a prefix of a sign (or equal to it): what"
                + " is left of the sign behind it");
        dueRemainders(withTable("aA,bA"), "");
        dueRemainders(withTable("aA,bA,cBC"), "");
        dueRemainders(withTable("aA,bAB,cBCD"), "B", "CD");
        dueRemainders(withTable("aA,bAB,cB"), "", "B");
    }

    private static void remaindersOfRemainders() {
        sentence(0, "if a sign is a prefix of a remainder (or equal to it): what is left of the"
                + " remainder behind it");
        dueRemainders(withTable("aA,bABC,cB"), "C", "BC");
        dueRemainders(withTable("aA,bABC,cBC"), "", "BC");
        dueRemainders(withTable("aA,bABB,cB"), "", "B", "BB");
    }

    private static void returnValues() {
        sentence(0, "UNKNOWN (-101): there is no such rule, place or remainder. OUTSIDE (-102):"
                + " another argument is out of range. STATE (-103), FULL (-104): as described at"
                + " the methods. NONE (-1) is not an error: there is no such thing.");
        due("UNKNOWN", UNKNOWN, SpellTables.UNKNOWN);
        due("OUTSIDE", OUTSIDE, SpellTables.OUTSIDE);
        due("STATE", STATE, SpellTables.STATE);
        due("FULL", FULL, SpellTables.FULL);
        due("NONE", NONE, SpellTables.NONE);
        SpellTables x = withTable("aA,bAB");
        due("no such rule", UNKNOWN, x.rule(2, 0));
        due("no such place", UNKNOWN, x.sign(1, 1, 2));
        due("no such remainder", UNKNOWN, x.ahead(1));
        due("another argument", OUTSIDE, x.rule(1, 5));
        due("no such thing", NONE, x.clash(1));
    }

    private static void firstError() {
        sentence(0, "Each method names its errors in the order in which they are checked; the first"
                + " that applies is returned, and NONE only if none of them applies.");
        SpellTables x = withTable("aA,bA,cA");
        due("there is no such set", NONE, x.parting(0));
        due("parting(2), where there is no such set", OUTSIDE, x.parting(2));
        due("parting(-1), where there is no such set", OUTSIDE, x.parting(-1));
        due("back(2), where nothing is stuck", OUTSIDE, x.back(2));
        SpellTables clean = withTable("aA");
        due("clash(6) of a clean table", OUTSIDE, clean.clash(6));
        due("clash(-1) of a clean table", OUTSIDE, clean.clash(-1));
        due("clashing(2, 0) of a clean table", OUTSIDE, clean.clashing(2, 0));
        due("clashing(-1, -1) of a clean table", OUTSIDE, clean.clashing(-1, -1));
        due("rule(1, 5)", UNKNOWN, clean.rule(1, 5));
        due("sign(1, 2, 3)", UNKNOWN, clean.sign(1, 2, 3));
        due("sign(0, 2, 3)", OUTSIDE, clean.sign(0, 2, 3));
        SpellTables empty = new SpellTables();
        due("trial(0, 0, 0) without rules", OUTSIDE, empty.trial(0, 0, 0));
        write(empty, "A".repeat(56));
        due("letter(127) on a full page", OUTSIDE, empty.letter(127));
        due("turn() of 56 letters that are no small ones", STATE, empty.turn());
    }

    private static void refuseEverything(SpellTables x) {
        for (int far : new int[] {LEAST, -1, 8, MOST}) {
            refused(x, "mark(" + far + ")", UNKNOWN, () -> x.mark(far));
            refused(x, "drop(" + far + ")", UNKNOWN, () -> x.drop(far));
            refused(x, "rule(" + far + ", 0)", UNKNOWN, () -> x.rule(far, 0));
            refused(x, "rule(0, " + far + ")", OUTSIDE, () -> x.rule(0, far));
            refused(x, "sign(" + far + ", 0, 0)", UNKNOWN, () -> x.sign(far, 0, 0));
            refused(x, "sign(0, " + far + ", 0)", OUTSIDE, () -> x.sign(0, far, 0));
            refused(x, "sign(0, 0, " + far + ")", UNKNOWN, () -> x.sign(0, 0, far));
            refused(x, "ink(" + far + ")", UNKNOWN, () -> x.ink(far));
            refused(x, "back(" + far + ")", OUTSIDE, () -> x.back(far));
            refused(x, "backAt(" + far + ")", UNKNOWN, () -> x.backAt(far));
            refused(x, "first(" + far + ")", UNKNOWN, () -> x.first(far));
            refused(x, "clash(" + far + ")", OUTSIDE, () -> x.clash(far));
            refused(x, "clashAt(" + far + ")", UNKNOWN, () -> x.clashAt(far));
            refused(x, "clashing(" + far + ", 0)", OUTSIDE, () -> x.clashing(far, 0));
            refused(x, "clashing(0, " + far + ")", UNKNOWN, () -> x.clashing(0, far));
            refused(x, "ahead(" + far + ")", UNKNOWN, () -> x.ahead(far));
            refused(x, "aheadAt(" + far + ", 0)", UNKNOWN, () -> x.aheadAt(far, 0));
            refused(x, "aheadAt(0, " + far + ")", UNKNOWN, () -> x.aheadAt(0, far));
            refused(x, "parting(" + far + ")", OUTSIDE, () -> x.parting(far));
            refused(x, "trial(1, 1, " + far + ")", OUTSIDE, () -> x.trial(1, 1, far));
            refused(x, "count(" + far + ")", OUTSIDE, () -> x.count(far));
        }
    }

    private static void refusedCalls() {
        sentence(0, "A call that returns an error changes nothing.");
        SpellTables x = withText("aA,bAB,cB,dA", "ABA'");
        x.mark(3);
        write(x, "q!");
        refuseEverything(x);
        SpellTables y = withText("aA,bAB,cB,dA", "ABA'");
        y.mark(3);
        write(y, "q!");
        due("digest() of an object without the refused calls", y.digest(), x.digest());
        refused(y, "letter(31)", OUTSIDE, () -> y.letter(31));
        refused(y, "letter(127)", OUTSIDE, () -> y.letter(127));
        refused(y, "table()", STATE, y::table);
        refused(y, "turn()", STATE, y::turn);
        refused(y, "text()", STATE, y::text);
        refused(y, "trial(0, 1, 0)", OUTSIDE, () -> y.trial(0, 1, 0));
        refused(y, "trial(41, 1, 0)", OUTSIDE, () -> y.trial(41, 1, 0));
        refused(y, "trial(1, -1, 0)", OUTSIDE, () -> y.trial(1, -1, 0));
        y.blank();
        write(y, "ax");
        refused(y, "turn() that is stuck", -1001, y::turn);
        y.blank();
        write(y, "!".repeat(56));
        refused(y, "letter() on a full page", FULL, () -> y.letter('a'));
        SpellTables none = new SpellTables();
        refused(none, "trial() without rules", STATE, () -> none.trial(1, 0, 0));
        refused(none, "table() of no page", STATE, none::table);
        refused(none, "mark(0) without rules", UNKNOWN, () -> none.mark(0));
        refused(none, "drop(0) without rules", UNKNOWN, () -> none.drop(0));
        due("none of them has been counted", new SpellTables().digest(), none.digest());
    }

    private static void placesFromNought() {
        sentence(0, "Characters are returned as their codes. All places are counted from 0.");
        SpellTables x = withText("abXY,cXY", "XYZ");
        dueAll("ink", x::ink, 88, 89, 90);
        dueAll("sign", place -> x.sign(0, 0, place), 97, 98);
        dueAll("clashAt", x::clashAt, 88, 89);
        dueAll("backAt", x::backAt, 0);
        due("back(1)", 2, x.back(1));
        write(x, "aa");
        due("fault()", 2, x.fault());
        due("turn()", -1000, x.turn());
    }

    private static void lastCall() {
        sentence(0, "An object is used for at most 512 calls after it has been made");
        SpellTables x = new SpellTables();
        for (int call = 1; call <= 511; call++) {
            due("text() number " + call, 0, x.text());
        }
        due("the 512th call", 511, x.count(6));
        SpellTables y = new SpellTables();
        for (int call = 1; call <= 255; call++) {
            due("turn() number " + call, 0, y.turn());
            due("blank() number " + call, 0, y.blank());
        }
        due("the 511th call", 255, y.count(5));
        SpellTables z = new SpellTables();
        for (int call = 1; call <= 127; call++) {
            write(z, "aA");
            due("table() number " + call, 1, z.table());
            due("mark(0) number " + call, 1, z.mark(0));
        }
        due("the 509th call", 127, z.count(4));
        due("the 510th call", 1, z.count(3));
    }

    // ---- promises 1 to 7: a new object, and texts

    private static void newObject() {
        sentence(1, "Creates an object with a table without rules, an empty text and an empty"
                + " page.");
        SpellTables x = new SpellTables();
        for (int what = 0; what <= 6; what++) {
            due("count(" + what + ")", 0, x.count(what));
        }
        dueAll("rule(.., 0)", rule -> x.rule(rule, 0));
        dueAll("ink", x::ink);
        dueAll("backAt", x::backAt);
        dueAll("first", x::first);
        dueAll("clashAt", x::clashAt);
        dueAll("ahead", x::ahead);
        due("back(0)", 0, x.back(0));
        due("back(1)", NONE, x.back(1));
        due("ways()", 1, x.ways());
        due("clash(0)", 1, x.clash(0));
        due("clash(5)", 0, x.clash(5));
        due("parting(0)", 0, x.parting(0));
        due("parting(1)", 0, x.parting(1));
        due("trial(1, 0, 0)", STATE, x.trial(1, 0, 0));
        due("fault()", 0, x.fault());
        due("blank()", 0, x.blank());
        SpellTables other = withText("aA", "A");
        write(other, "a");
        due("objects share nothing", new SpellTables().digest(), x.digest());
    }

    private static void letterCodes() {
        sentence(2, "`code`: its code, 32 to 126");
        SpellTables x = new SpellTables();
        for (int code : new int[] {31, 127, 0, -1, 128, 32 + 256, 32 + 65536, LEAST, MOST}) {
            refused(x, "letter(" + code + ")", OUTSIDE, () -> x.letter(code));
        }
        due("letter(32)", 1, x.letter(32));
        due("letter(126)", 2, x.letter(126));
        SpellTables all = new SpellTables();
        for (int code = 32; code <= 126; code++) {
            due("letter(" + code + ")", 1, all.letter(code));
            all.blank();
        }
    }

    private static void fullPage() {
        sentence(2, "OUTSIDE if code is out of range; FULL if the page has 56 characters.");
        SpellTables x = new SpellTables();
        for (int size = 1; size <= 56; size++) {
            due("letter() number " + size, size, x.letter('Q'));
        }
        refused(x, "letter() number 57", FULL, () -> x.letter('Q'));
        refused(x, "letter(32) on a full page", FULL, () -> x.letter(32));
        refused(x, "letter(126) on a full page", FULL, () -> x.letter(126));
        refused(x, "letter(31) on a full page", OUTSIDE, () -> x.letter(31));
        refused(x, "letter(127) on a full page", OUTSIDE, () -> x.letter(127));
        due("characters of the full page", 56, x.count(1));
        due("text() of the full page", 56, x.text());
        due("letter() on the page, which is empty again", 1, x.letter('Q'));
    }

    private static void blankPage() {
        sentence(3, "Returns the number of characters that it had.");
        SpellTables x = withText("aA", "A");
        due("blank() of the empty page", 0, x.blank());
        x.letter('!');
        due("blank() of one character", 1, x.blank());
        write(x, "a".repeat(56));
        due("blank() of the full page", 56, x.blank());
        due("blank() once more", 0, x.blank());
        due("the table stays", 1, x.count(0));
        due("the text stays", 1, x.count(2));
    }

    private static void faultPlace() {
        sentence(4, "Returns the place of the first character of the page at which it is certain"
                + " that no table begins with the characters up to this one.");
        dueNoTable(" ", 0);
        dueNoTable(",", 0);
        dueNoTable("A", 0);
        dueNoTable("abcd", 3);
        dueNoTable("abc,", 3);
        dueNoTable("aABCD", 4);
        dueNoTable("aABCd", 4);
        dueNoTable("aA,bB,,", 6);
        dueNoTable("aA~bB~", 2);
        // behind eight rules nothing can follow, least of all a comma, which only separates
        dueNoTable(EIGHT + ",", 23);
        dueNoTable(EIGHT + "i", 23);
        dueNoTable(EIGHT + "HH,", 25);
        dueNoTable(EIGHT + "HHH", 25);
        dueNoTable(LONGEST + ",", 55);
        dueNoTable(LONGEST + "A", 55);
        dueNoTable(LONGEST + "a", 55);
        dueNoTable("0" + LONGEST, 0);
    }

    private static void faultOfDoubles() {
        sentence(4, "(A left side that occurs twice is an error at the first letter of the right"
                + " side that follows it, never before.)");
        dueUnfinished("aA,a");
        dueNoTable("aA,aA", 4);
        dueNoTable("aA,aABC", 4);
        dueTable("aA,abA");
        dueUnfinished("abA,ab");
        dueNoTable("abA,abA", 6);
        dueTable("abA,abcA");
        // even where the left side cannot become longer
        dueUnfinished("abcA,abc");
        dueNoTable("abcA,abcA", 8);
        dueNoTable("abcA,abcABC", 8);
        dueNoTable("abcA,abc,", 8);
        dueNoTable("abcA,abcd", 8);
        dueNoTable("aA,a,", 4);
        dueNoTable("aA,a'", 4);
        // the first fault alone
        dueNoTable("aA,aB,bABCD", 4);
        dueNoTable("aA,bABCD,aB", 7);
        dueNoTable("aA,bB,cC,dD,eE,fF,gG,aH", 22);
    }

    private static void noFault() {
        sentence(4, "Returns the place; the number of characters if there is no such place.");
        due("fault() of the empty page", 0, new SpellTables().fault());
        due("fault() of a", 1, withPage("a").fault());
        due("fault() of a table", 23, withPage(EIGHT).fault());
        due("fault() of the longest table", 55, withPage(LONGEST).fault());
        due("fault() at the first of 56", 0, withPage("!".repeat(56)).fault());
        SpellTables x = withPage("aA;");
        due("fault()", 2, x.fault());
        x.blank();
        due("fault() after blank()", 0, x.fault());
        write(x, "aA");
        due("fault()", 2, x.fault());
        x.table();
        due("fault() after table()", 0, x.fault());
    }

    private static void newTable() {
        sentence(5, "Reads the page as a table, which replaces the present one. No rule is marked"
                + " then, the text and the page are empty.");
        SpellTables x = withText(EIGHT, "A'B'");
        markAll(x);
        due("marked before", 8, x.count(3));
        write(x, "zZ");
        due("table() of one rule", 1, x.table());
        due("rules", 1, x.count(0));
        due("characters of the page", 0, x.count(1));
        due("characters of the text", 0, x.count(2));
        due("marked rules", 0, x.count(3));
        dueRules(x, "zZ");
        due("the second rule", UNKNOWN, x.rule(1, 0));
        write(x, LONGEST);
        due("table() of eight rules", 8, x.table());
        due("marked rules", 0, x.count(3));
        due("rule(7, 2)", 0, x.rule(7, 2));
        dueRules(x, LONGEST);
        SpellTables y = withTable("aA,bA,cB");
        dueAll("the least clash of the old table", y::clashAt, 'A');
        due("its parting", 1, y.parting(1));
        write(y, "aA,bB,cB");
        due("table()", 3, y.table());
        due("the parting of the new table", 2, y.parting(1));
        dueAll("its least clash", y::clashAt, 'B');
    }

    private static void noTable() {
        sentence(5, "Returns the number of rules; STATE if the page is not a table.");
        due("table() of one rule", 1, withPage("aA").table());
        due("table() of eight rules", 8, withPage(EIGHT).table());
        due("table() of the longest page that is one", 8, withPage(LONGEST).table());
        dueUnfinished("");
        dueUnfinished("a");
        dueUnfinished("aA,");
        dueNoTable("A", 0);
        dueNoTable(EIGHT + ",", 23);
        dueNoTable(LONGEST + "A", 55);
        dueNoTable("aA,aA", 4);
        dueNoTable("aA ", 2);
        SpellTables x = withTable("aA");
        refused(x, "table() again, of the empty page", STATE, x::table);
    }

    private static void turnedPage() {
        sentence(6, "Encodes the page, which must consist of at most 12 letters a to z (or of"
                + " none)");
        SpellTables x = withTable("aA,zZ");
        due("turn() of none", 0, x.turn());
        due("its text", 0, x.count(2));
        write(x, "azazazazazaz");
        due("turn() of 12", 12, x.turn());
        dueAll("its text", x::ink, codes("AZAZAZAZAZAZ"));
        write(x, "azazazazazaza");
        refused(x, "turn() of 13", STATE, x::turn);
        x.blank();
        for (String page : new String[] {"`", "{", "A", "Z", "'", ",", " ", "a`", "a{", "aA"}) {
            write(x, page);
            refused(x, "turn() of " + page, STATE, x::turn);
            x.blank();
        }
        write(x, "a".repeat(56));
        refused(x, "turn() of a full page", STATE, x::turn);
        SpellTables longest = withTable("aABC");
        longest.mark(0);
        write(longest, "a".repeat(12));
        due("turn() to the longest text", 12, longest.turn());
        dueAll("its text", longest::ink, codes("ABC'".repeat(12)));
    }

    private static void emptyAfterTurn() {
        sentence(6, "this becomes the text. The page is empty then.");
        SpellTables x = withText("aA,bB", "BBBB");
        write(x, "ab");
        due("turn()", 2, x.turn());
        dueAll("the text", x::ink, codes("AB"));
        due("characters of the page", 0, x.count(1));
        due("turn() of none", 0, x.turn());
        dueAll("no text", x::ink);
        SpellTables none = new SpellTables();
        setText(none, "A");
        due("turn() of none without rules", 0, none.turn());
        dueAll("no text", none::ink);
        due("turns that succeeded", 1, none.count(5));
    }

    private static void stuckTurn() {
        sentence(6, "STATE if the page is not like this; -1000 minus the place of the page at"
                + " which the encoding is stuck (nothing changes then).");
        SpellTables x = withText("aA,bcB", "AB");
        write(x, "c");
        refused(x, "turn() that is stuck at the first place", -1000, x::turn);
        x.blank();
        write(x, "a".repeat(11) + "x");
        refused(x, "turn() that is stuck at the last place", -1011, x::turn);
        x.letter('a');
        refused(x, "turn() of 13 that would be stuck", STATE, x::turn);
        x.blank();
        write(x, "xA");
        refused(x, "turn() of a capital behind a place where it would be stuck", STATE, x::turn);
        due("turns that succeeded", 0, x.count(5));
        // a, bc would reach the end, but the longest match is ab
        SpellTables y = withTable("aA,abB,bcC");
        write(y, "abc");
        refused(y, "turn() that is stuck behind the longest match", -1002, y::turn);
        SpellTables none = withPage("a");
        refused(none, "turn() without rules", -1000, none::turn);
    }

    private static void takenText() {
        sentence(7, "Makes the page, which must consist of letters A to Z and apostrophes (or be"
                + " empty), the text. The page is empty then.");
        SpellTables x = new SpellTables();
        due("text() of none", 0, x.text());
        setText(x, "A");
        setText(x, "Z");
        setText(x, "'");
        setText(x, "''''");
        setText(x, "AZ'MA");
        due("characters of the page", 0, x.count(1));
        due("text() of none", 0, x.text());
        dueAll("no text", x::ink);
        setText(x, "'Z".repeat(28));
        dueAll("the longest text", x::ink, codes("'Z".repeat(28)));
        due("texts taken", 8, x.count(6));
    }

    private static void noText() {
        sentence(7, "Returns the number of characters of the text; STATE if the page is not like"
                + " this.");
        SpellTables x = withText("aA", "AA");
        for (String page : new String[] {"@", "[", "&", "(", "a", "z", ",", " ", "~", "A@", "aA"}) {
            write(x, page);
            refused(x, "text() of " + page, STATE, x::text);
            x.blank();
        }
        write(x, "A".repeat(55) + "a");
        refused(x, "text() of a full page whose last is wrong", STATE, x::text);
        dueAll("the text stays", x::ink, codes("AA"));
        due("texts taken", 1, x.count(6));
    }

    // ---- promises 8 to 11: rules

    private static void marks() {
        sentence(8, "Marks a rule, or removes the mark if it has one. The text stays.");
        SpellTables x = withText("aA,bA", "A");
        due("mark(0)", 1, x.mark(0));
        due("mark(0) again", 0, x.mark(0));
        due("mark(0) a third time", 1, x.mark(0));
        due("mark(1)", 1, x.mark(1));
        due("marked rules", 2, x.count(3));
        dueAll("the text stays", x::ink, 'A');
        due("but is stuck", 0, x.back(1));
        write(x, "ab!");
        due("mark(1)", 0, x.mark(1));
        due("the page stays", 3, x.count(1));
    }

    private static void markedRules() {
        sentence(8, "Returns 1 if the rule is marked then, 0 if not; UNKNOWN if there is no such"
                + " rule.");
        SpellTables x = withTable(EIGHT);
        for (int rule : new int[] {-1, 8, 32, LEAST, MOST}) {
            refused(x, "mark(" + rule + ")", UNKNOWN, () -> x.mark(rule));
        }
        due("mark(0)", 1, x.mark(0));
        due("mark(7)", 1, x.mark(7));
        due("marked rules", 2, x.count(3));
        x.drop(3);
        refused(x, "mark(7) of seven", UNKNOWN, () -> x.mark(7));
        due("mark(6) of seven", 0, x.mark(6));
        SpellTables one = withTable("aA");
        refused(one, "mark(1) of one", UNKNOWN, () -> one.mark(1));
        due("mark(0) of one", 1, one.mark(0));
        SpellTables none = new SpellTables();
        refused(none, "mark(0) of none", UNKNOWN, () -> none.mark(0));
    }

    private static void drops() {
        sentence(9, "Removes a rule; the numbers of those behind it decrease by 1. The text"
                + " stays.");
        SpellTables x = withText("aA,bBB,cC,dD", "AD");
        x.mark(1);
        x.mark(3);
        write(x, "?");
        due("drop(0), the first", 3, x.drop(0));
        dueAll("the left sides", rule -> x.sign(rule, 0, 0), codes("bcd"));
        dueAll("the marks", rule -> x.rule(rule, 2), 1, 0, 1);
        due("drop(2), the last", 2, x.drop(2));
        dueAll("the left sides", rule -> x.sign(rule, 0, 0), codes("bc"));
        dueAll("the marks", rule -> x.rule(rule, 2), 1, 0);
        due("marked rules", 1, x.count(3));
        dueAll("the text stays", x::ink, codes("AD"));
        due("the page stays", 1, x.count(1));
        SpellTables y = withTable("aA,bB,cC");
        markAll(y);
        due("drop(1), one between", 2, y.drop(1));
        dueAll("the left sides", rule -> y.sign(rule, 0, 0), codes("ac"));
        dueAll("the marks", rule -> y.rule(rule, 2), 1, 1);
    }

    private static void rulesLeft() {
        sentence(9, "Returns how many rules are left; UNKNOWN if there is no such rule.");
        SpellTables x = withTable(EIGHT);
        markAll(x);
        for (int rule : new int[] {-1, 8, LEAST, MOST}) {
            refused(x, "drop(" + rule + ")", UNKNOWN, () -> x.drop(rule));
        }
        for (int left = 7; left >= 0; left--) {
            int behind = left + 1;
            refused(x, "drop(" + behind + ")", UNKNOWN, () -> x.drop(behind));
            due("drop(" + left + ")", left, x.drop(left));
            due("marked rules", left, x.count(3));
        }
        refused(x, "drop(0) of none", UNKNOWN, () -> x.drop(0));
        due("a table without rules is clean", 1, x.clash(0));
        due("parting(0) of it", 0, x.parting(0));
        due("trial() of it", STATE, x.trial(1, 0, 0));
        write(x, "aA");
        due("table() after the last drop", 1, x.table());
    }

    private static void ruleLengths() {
        sentence(10, "0 length of its left side; 1 length of its right side; 2 whether it is marked"
                + " (1 or 0)");
        SpellTables x = withTable("aXYZ,bcXY,defX");
        for (int rule = 0; rule < 3; rule++) {
            due("rule(" + rule + ", 0)", rule + 1, x.rule(rule, 0));
            due("rule(" + rule + ", 1)", 3 - rule, x.rule(rule, 1));
            due("rule(" + rule + ", 2)", 0, x.rule(rule, 2));
        }
        markAll(x);
        for (int rule = 0; rule < 3; rule++) {
            due("marked: rule(" + rule + ", 0)", rule + 1, x.rule(rule, 0));
            due("marked: rule(" + rule + ", 1)", 3 - rule, x.rule(rule, 1));
            due("marked: rule(" + rule + ", 2)", 1, x.rule(rule, 2));
        }
    }

    private static void ruleStarts() {
        sentence(10, "3 number of other rules whose sign begins with (or equals) its sign; 4 number"
                + " of other rules whose left side begins with its left side");
        SpellTables one = withTable("aA");
        due("rule(0, 3) of one rule", 0, one.rule(0, 3));
        due("rule(0, 4) of one rule", 0, one.rule(0, 4));
        SpellTables same = withTable("aA,bA,cA,dA,eA,fA,gA,hA");
        due("rule(0, 3) of equal signs", 7, same.rule(0, 3));
        due("rule(7, 3) of equal signs", 7, same.rule(7, 3));
        due("rule(0, 4) of other left sides", 0, same.rule(0, 4));
        SpellTables x = withTable("aA,aaA,aaaAB");
        dueAll("rule(.., 3)", rule -> x.rule(rule, 3), 2, 2, 0);
        dueAll("rule(.., 4)", rule -> x.rule(rule, 4), 2, 1, 0);
        x.mark(1);
        dueAll("rule(.., 3) with a mark", rule -> x.rule(rule, 3), 2, 0, 0);
        dueAll("rule(.., 4) with a mark", rule -> x.rule(rule, 4), 2, 1, 0);
        x.mark(0);
        dueAll("rule(.., 3) with two marks", rule -> x.rule(rule, 3), 1, 1, 0);
    }

    private static void ruleErrors() {
        sentence(10, "Returns the property; UNKNOWN if there is no such rule; OUTSIDE if what is"
                + " out of range.");
        SpellTables x = withTable("aA,bB");
        dueAll("rule(.., 0)", rule -> x.rule(rule, 0), 1, 1);
        for (int what : new int[] {-1, 5, LEAST, MOST}) {
            due("rule(0, " + what + ")", OUTSIDE, x.rule(0, what));
            due("rule(1, " + what + ")", OUTSIDE, x.rule(1, what));
            due("rule(2, " + what + ")", UNKNOWN, x.rule(2, what));
            due("rule(-1, " + what + ")", UNKNOWN, x.rule(-1, what));
        }
        due("rule(2, 4)", UNKNOWN, x.rule(2, 4));
        due("rule(-1, 0)", UNKNOWN, x.rule(-1, 0));
        due("rule(1, 4)", 0, x.rule(1, 4));
    }

    private static void signErrors() {
        sentence(11, "Returns the character; UNKNOWN if there is no such rule; OUTSIDE if side is"
                + " out of range; UNKNOWN if there is no such place.");
        SpellTables x = withTable("abcX,dXYZ");
        dueAll("left side 0", place -> x.sign(0, 0, place), codes("abc"));
        dueAll("sign 0", place -> x.sign(0, 1, place), codes("X"));
        dueAll("left side 1", place -> x.sign(1, 0, place), codes("d"));
        dueAll("sign 1", place -> x.sign(1, 1, place), codes("XYZ"));
        for (int side : new int[] {-1, 2, LEAST, MOST}) {
            due("sign(1, " + side + ", 0)", OUTSIDE, x.sign(1, side, 0));
            due("sign(1, " + side + ", 3)", OUTSIDE, x.sign(1, side, 3));
            due("sign(1, " + side + ", -1)", OUTSIDE, x.sign(1, side, -1));
            due("sign(2, " + side + ", 0)", UNKNOWN, x.sign(2, side, 0));
            due("sign(-1, " + side + ", 0)", UNKNOWN, x.sign(-1, side, 0));
        }
        dueAll("the rules", rule -> x.sign(rule, 0, 0), 'a', 'd');
        markAll(x);
        dueAll("sign 0 with its mark", place -> x.sign(0, 1, place), codes("X'"));
        dueAll("sign 1 with its mark", place -> x.sign(1, 1, place), codes("XYZ'"));
        dueAll("left side 0 has none", place -> x.sign(0, 0, place), codes("abc"));
    }

    // ---- promises 12 to 16: the text

    private static void inkPlaces() {
        sentence(12, "Returns the character; UNKNOWN if there is no such place.");
        SpellTables x = new SpellTables();
        dueAll("no text", x::ink);
        setText(x, "'");
        dueAll("one character", x::ink, '\'');
        setText(x, "ABCDEFGHIJKLMNOPQRSTUVWXYZ''ABCDEFGHIJKLMNOPQRSTUVWXYZ''");
        dueAll("56 characters", x::ink,
                codes("ABCDEFGHIJKLMNOPQRSTUVWXYZ''ABCDEFGHIJKLMNOPQRSTUVWXYZ''"));
        setText(x, "ZA");
        dueAll("a shorter text behind it", x::ink, codes("ZA"));
    }

    private static void backValues() {
        sentence(13, "0 the number of rules until the end or until it is stuck; 1 the place at"
                + " which it is stuck");
        SpellTables x = withText("aA,bABC", "A".repeat(56));
        due("back(0) of 56", 56, x.back(0));
        due("back(1) of 56", NONE, x.back(1));
        setText(x, "A".repeat(55) + "B");
        due("back(0) until the last", 55, x.back(0));
        due("back(1) at the last", 55, x.back(1));
        setText(x, "ABCAB");
        due("back(0) until stuck", 2, x.back(0));
        due("back(1)", 4, x.back(1));
        setText(x, "'A");
        due("back(0) that is stuck at once", 0, x.back(0));
        due("back(1) at once", 0, x.back(1));
    }

    private static void backErrors() {
        sentence(13, "Returns that value; OUTSIDE if what is out of range; for what = 1 NONE if it"
                + " is not stuck.");
        SpellTables none = new SpellTables();
        due("back(0) of no text", 0, none.back(0));
        due("back(1) of no text", NONE, none.back(1));
        SpellTables x = withText("aA", "AA");
        due("back(1)", NONE, x.back(1));
        for (int what : new int[] {-1, 2, LEAST, MOST}) {
            due("back(" + what + ") that is not stuck", OUTSIDE, x.back(what));
        }
        setText(x, "AB");
        for (int what : new int[] {-1, 2, LEAST, MOST}) {
            due("back(" + what + ") that is stuck", OUTSIDE, x.back(what));
        }
    }

    private static void backPositions() {
        sentence(14, "Returns the rule; UNKNOWN if there is no such position.");
        SpellTables none = new SpellTables();
        dueAll("no text", none::backAt);
        setText(none, "A");
        dueAll("no rules", none::backAt);
        SpellTables x = withText("aA,bB", "AB'A");
        dueAll("until it is stuck and no further", x::backAt, 0, 1);
        setText(x, "'");
        dueAll("stuck at once", x::backAt);
        setText(x, "BA".repeat(28));
        int[] want = new int[56];
        for (int place = 0; place < 56; place += 2) {
            want[place] = 1;
        }
        dueAll("56 rules", x::backAt, want);
    }

    private static void waysOfNothing() {
        sentence(15, "Counts the rows that spell the text (the empty row spells the empty text).");
        SpellTables none = new SpellTables();
        due("no text and no rules", 1, none.ways());
        setText(none, "A");
        due("no rules", 0, none.ways());
        SpellTables x = withTable("aA,bA,cA,dA,eA,fA,gA,hA");
        due("no text", 1, x.ways());
        setText(x, "A");
        due("eight rules", 8, x.ways());
        setText(x, "B");
        due("a text that no row spells", 0, x.ways());
        setText(x, "AAB");
        due("a text whose end no row spells", 0, x.ways());
        setText(x, "A'");
        due("an apostrophe that no rule has", 0, x.ways());
    }

    private static void waysModulo() {
        sentence(15, "Returns the number of rows, modulo 1000000.");
        SpellTables x = withText("aA,bA,cA,dA,eA,fA,gB,hB", "AAAAABBBBBBB");
        due("6 ^ 5 * 2 ^ 7", 995328, x.ways());
        setText(x, "B".repeat(20));
        due("2 ^ 20", 48576, x.ways());
        setText(x, "A".repeat(56));
        due("6 ^ 56", power(6, 56), x.ways());
        SpellTables y = withText("aA,bA,cB,dB,eB,fB,gB,hC", "ABABABABABAB");
        due("10 ^ 6", 0, y.ways());
        setText(y, "AABABABABABAB");
        due("2 * 10 ^ 6", 0, y.ways());
        SpellTables z = withText("aA,bA,cA,dA,eA,fA,gA,hA", "A".repeat(56));
        due("8 ^ 56", power(8, 56), z.ways());
    }

    private static int power(int base, int exponent) {
        return BigInteger.valueOf(base).modPow(BigInteger.valueOf(exponent),
                BigInteger.valueOf(1000000)).intValue();
    }

    private static void firstRow() {
        sentence(16, "Returns the rule; UNKNOWN if there is no such position, or no such row.");
        SpellTables none = new SpellTables();
        dueAll("the empty row", none::first);
        setText(none, "A");
        dueAll("no rules", none::first);
        SpellTables x = withText("aA,bAB,cC", "ABC");
        dueAll("the first rule that leads to the end", x::first, 1, 2);
        setText(x, "ABB");
        dueAll("no row, though it begins like one", x::first);
        setText(x, "A".repeat(56));
        dueAll("56 rules", x::first, new int[56]);
        due("text() of none", 0, x.text());
        dueAll("the empty row", x::first);
        // the number of rows is 0 modulo 1000000, but there are some
        SpellTables y = withText("aA,bA,cB,dB,eB,fB,gB,hC", "ABABABABABAB");
        dueAll("the first of 1000000", y::first, 0, 2, 0, 2, 0, 2, 0, 2, 0, 2, 0, 2);
    }

    // ---- promises 17 to 23: clashes

    private static void clashValues() {
        sentence(17, "0 whether it is clean (1 or 0); 1 the length of the least clash; 2 the number"
                + " of rules of ONE; 3 the number of rules of OTHER; 4 the number of rows that"
                + " spell the least clash, modulo 1000000; 5 the number of remainders");
        SpellTables least = withTable("aA,bA");
        int[] ofLeast = {0, 1, 1, 1, 2, 1};
        SpellTables most = withTable("aA,bA,cA,dA,eA,fA,gA,hA");
        int[] ofMost = {0, 1, 1, 1, 8, 1};
        SpellTables other = withTable("aABC,bA,cB,dC");
        int[] ofOther = {0, 3, 1, 3, 2, 3};
        for (int what = 0; what <= 5; what++) {
            due("two equal signs: clash(" + what + ")", ofLeast[what], least.clash(what));
            due("eight equal signs: clash(" + what + ")", ofMost[what], most.clash(what));
            due("ABC or A, B, C: clash(" + what + ")", ofOther[what], other.clash(what));
        }
    }

    private static void longClash() {
        sentence(17, "1 the length of the least clash");
        SpellTables x = withTable("aCBE,bA,cE,dEDA,eBEC,fDAC,gBED,hACB");
        x.mark(2);
        x.mark(4);
        int[] want = {0, 16, 6, 6, 2};
        for (int what = 0; what < want.length; what++) {
            due("clash(" + what + ")", want[what], x.clash(what));
        }
        dueAll("the least clash", x::clashAt, codes("ACBEDACBEDACBEDA"));
        dueAll("ONE", place -> x.clashing(0, place), 1, 0, 5, 6, 7, 3);
        dueAll("OTHER", place -> x.clashing(1, place), 7, 3, 0, 5, 6, 1);
    }

    private static void clashErrors() {
        sentence(17, "Returns that value; OUTSIDE if what is out of range; for what = 1 to 4 NONE"
                + " if the table is clean.");
        SpellTables none = new SpellTables();
        SpellTables clean = withTable("aA,bAB,cAC");
        SpellTables full = withTable("aA,bA");
        int[] ofNone = {1, NONE, NONE, NONE, NONE, 0};
        int[] ofClean = {1, NONE, NONE, NONE, NONE, 2};
        for (int what = 0; what <= 5; what++) {
            due("no rules: clash(" + what + ")", ofNone[what], none.clash(what));
            due("clean: clash(" + what + ")", ofClean[what], clean.clash(what));
        }
        for (int what : new int[] {-1, 6, LEAST, MOST}) {
            due("no rules: clash(" + what + ")", OUTSIDE, none.clash(what));
            due("clean: clash(" + what + ")", OUTSIDE, clean.clash(what));
            due("not clean: clash(" + what + ")", OUTSIDE, full.clash(what));
        }
        full.mark(0);
        due("clean by a mark: clash(4)", NONE, full.clash(4));
        full.mark(1);
        due("two marks: clash(1)", 2, full.clash(1));
        full.drop(1);
        due("clean by drop(): clash(1)", NONE, full.clash(1));
    }

    private static void clashPlaces() {
        sentence(18, "Returns the character; UNKNOWN if there is no such place, or the table is"
                + " clean.");
        dueAll("no rules", new SpellTables()::clashAt);
        dueAll("clean", withTable("aA,bAB")::clashAt);
        SpellTables x = withTable("aA,bA");
        dueAll("one character", x::clashAt, 'A');
        x.mark(1);
        dueAll("clean by a mark", x::clashAt);
        x.mark(0);
        dueAll("with marks", x::clashAt, codes("A'"));
        x.drop(0);
        dueAll("clean by drop()", x::clashAt);
    }

    private static void clashingPositions() {
        sentence(19, "Returns the rule; OUTSIDE if which is out of range; UNKNOWN if there is no"
                + " such position, or the table is clean.");
        SpellTables none = new SpellTables();
        SpellTables clean = withTable("aA,bB");
        SpellTables x = withTable("aABC,bA,cB,dC");
        for (int which = 0; which <= 1; which++) {
            int row = which;
            dueAll("no rules: clashing(" + which + ", ..)", place -> none.clashing(row, place));
            dueAll("clean: clashing(" + which + ", ..)", place -> clean.clashing(row, place));
        }
        dueAll("ONE", place -> x.clashing(0, place), 0);
        dueAll("OTHER", place -> x.clashing(1, place), 1, 2, 3);
        x.mark(1);
        dueAll("clean by a mark: ONE", place -> x.clashing(0, place));
        dueAll("clean by a mark: OTHER", place -> x.clashing(1, place));
        x.mark(1);
        for (int which : new int[] {-1, 2, LEAST, MOST}) {
            due("no rules: clashing(" + which + ", 0)", OUTSIDE, none.clashing(which, 0));
            due("clean: clashing(" + which + ", 0)", OUTSIDE, clean.clashing(which, 0));
            due("clashing(" + which + ", 0)", OUTSIDE, x.clashing(which, 0));
            due("clashing(" + which + ", -1)", OUTSIDE, x.clashing(which, -1));
            due("clashing(" + which + ", 3)", OUTSIDE, x.clashing(which, 3));
        }
    }

    private static void aheadNumbers() {
        sentence(20, "Returns the length; UNKNOWN if there is no such remainder.");
        dueAll("no rules", new SpellTables()::ahead);
        dueAll("no remainders", withTable("aA,bB")::ahead);
        dueAll("the empty one alone", withTable("aA,bA")::ahead, 0);
        SpellTables x = withTable("aA,bA,cAB,dABC");
        x.mark(3);
        dueAll("each length there is", x::ahead, 0, 1, 2, 3);
        x.drop(0);
        dueAll("after drop()", x::ahead, 1, 2, 3);
    }

    private static void aheadPlaces() {
        sentence(21, "Returns the character; UNKNOWN if there is no such remainder or place.");
        SpellTables none = new SpellTables();
        dueAll("no rules", ahead -> none.aheadAt(ahead, 0));
        SpellTables same = withTable("aA,bA");
        dueAll("the empty remainder", place -> same.aheadAt(0, place));
        SpellTables x = withTable("aA,bAB,cABC");
        x.mark(2);
        // B, C', BC'
        dueAll("remainder 0", place -> x.aheadAt(0, place), codes("B"));
        dueAll("remainder 1", place -> x.aheadAt(1, place), codes("C'"));
        dueAll("remainder 2", place -> x.aheadAt(2, place), codes("BC'"));
        dueAll("the first characters", ahead -> x.aheadAt(ahead, 0), codes("BCB"));
    }

    private static void duePart(String page, int number, int set) {
        SpellTables x = withTable(page);
        due(page + ": parting(0)", number, x.parting(0));
        due(page + ": parting(1)", set, x.parting(1));
    }

    private static void smallestParting() {
        sentence(22, "Finds the smallest set of rules such that the table would be clean if exactly"
                + " these rules were marked (whichever are marked now); of several sets of the same"
                + " size the smallest bit set.");
        due("no rules: parting(0)", 0, new SpellTables().parting(0));
        due("no rules: parting(1)", 0, new SpellTables().parting(1));
        duePart("aA", 0, 0);
        duePart("aA,bA", 1, 1);
        // rule 1 or rule 2
        duePart("aB,bA,cA", 1, 2);
        // rule 3 alone comes before rules 0 and 1, though its bit is the greater number
        duePart("aBA,bBB,cA,dB", 1, 8);
        duePart("aA,bB,cC,dD,eE,fF,gG,hG", 1, 64);
        duePart("aA,bA,cB,dB,eC,fC,gD,hD", 4, 85);
        duePart("aB,bABB,cBB,dAB,eA,fBBB,gBBB,hABB", 6, 63);
        SpellTables x = withTable("aA,bA");
        int[] marked = {0, 1, 2, 1};
        for (int time = 0; time < marked.length; time++) {
            due("whichever are marked: parting(0)", 1, x.parting(0));
            due("whichever are marked: parting(1)", 1, x.parting(1));
            due("no mark comes from it", marked[time], x.count(3));
            x.mark(time % 2);
        }
        x.drop(0);
        due("parting(0) after drop()", 0, x.parting(0));
    }

    private static void partingErrors() {
        sentence(22, "Returns that value; OUTSIDE if what is out of range; NONE if there is no such"
                + " set.");
        duePart("aA,bA,cA", NONE, NONE);
        duePart("aA,bA,cA,dA,eA,fA,gA,hA", NONE, NONE);
        SpellTables none = new SpellTables();
        SpellTables noSet = withTable("aA,bA,cA");
        SpellTables x = withTable("aA,bA");
        for (int what : new int[] {-1, 2, LEAST, MOST}) {
            due("no rules: parting(" + what + ")", OUTSIDE, none.parting(what));
            due("no such set: parting(" + what + ")", OUTSIDE, noSet.parting(what));
            due("parting(" + what + ")", OUTSIDE, x.parting(what));
        }
        noSet.drop(2);
        due("a set after drop()", 1, noSet.parting(1));
    }

    /** The random rows as texts of digits, with draws that cannot overflow. */
    private static String[] drawnRows(int times, int seed, int rules) {
        BigInteger drawn = BigInteger.valueOf(seed);
        String[] rows = new String[times];
        for (int time = 0; time < times; time++) {
            drawn = next(drawn);
            int size = 1 + draw(drawn, 5);
            rows[time] = "";
            for (int place = 0; place < size; place++) {
                drawn = next(drawn);
                rows[time] += draw(drawn, rules);
            }
        }
        return rows;
    }

    private static int drawnCharacters(int times, int seed, int... sizes) {
        int characters = 0;
        for (String row : drawnRows(times, seed, sizes.length)) {
            for (char rule : row.toCharArray()) {
                characters += sizes[rule - '0'];
            }
        }
        return characters;
    }

    private static int drawnLike(String pattern, int times, int seed, int rules) {
        int found = 0;
        for (String row : drawnRows(times, seed, rules)) {
            found += row.matches(pattern) ? 1 : 0;
        }
        return found;
    }

    private static BigInteger next(BigInteger drawn) {
        return drawn.multiply(BigInteger.valueOf(1103515245)).add(BigInteger.valueOf(12345))
                .mod(BigInteger.ONE.shiftLeft(31));
    }

    private static int draw(BigInteger drawn, int choices) {
        return drawn.divide(BigInteger.valueOf(65536)).mod(BigInteger.valueOf(choices)).intValue();
    }

    private static void trialDraws() {
        sentence(23, "x becomes (1103515245 * x + 12345) modulo 2^31, where x is the seed at first;"
                + " the draw of n is (x / 65536) modulo n. For each time, a row is made of 1 + (a"
                + " draw of 5) rules, each a draw of the number of rules");
        SpellTables x = withTable("aABC");
        x.mark(0);
        SpellTables eight = withTable("aA,bBB,cCCC,dD,eEE,fFFF,gG,hHH");
        for (int seed : new int[] {0, 1, 65535, 65536, 1 << 30, MOST - 1, MOST}) {
            for (int times : new int[] {1, 2, 39, 40}) {
                String call = "trial(" + times + ", " + seed + ", ..)";
                due(call + " with one rule", drawnCharacters(times, seed, 4),
                        x.trial(times, seed, 3));
                due(call + " with eight rules",
                        drawnCharacters(times, seed, 1, 2, 3, 1, 2, 3, 1, 2),
                        eight.trial(times, seed, 3));
            }
        }
    }

    private static void trialRanges() {
        sentence(23, "`times`: 1 to 40 - `seed`: 0 or more");
        SpellTables x = withTable("aA");
        due("trial(1, 0, 0)", 1, x.trial(1, 0, 0));
        due("trial(40, 0, 0)", 40, x.trial(40, 0, 0));
        due("trial(40, MAX, 0)", 40, x.trial(40, MOST, 0));
        for (int times : new int[] {0, 41, -1, LEAST, MOST}) {
            refused(x, "trial(" + times + ", 0, 0)", OUTSIDE, () -> x.trial(times, 0, 0));
        }
        for (int seed : new int[] {-1, LEAST}) {
            refused(x, "trial(1, " + seed + ", 0)", OUTSIDE, () -> x.trial(1, seed, 0));
        }
        for (int what : new int[] {-1, 4, LEAST, MOST}) {
            refused(x, "trial(1, 0, " + what + ")", OUTSIDE, () -> x.trial(1, 0, what));
        }
    }

    private static void trialResults() {
        sentence(23, "0 how often the same row comes out; 1 how often another row; 2 how often the"
                + " decoding is stuck; 3 how many characters were spelled in all");
        SpellTables clean = withTable("aA,bB");
        due("always the same row", 40, clean.trial(40, 7, 0));
        due("never another row", 0, clean.trial(40, 7, 1));
        due("never stuck", 0, clean.trial(40, 7, 2));
        // each comes out as 0, 0, .. 0
        dueTrial("aA,bA", 2, "0+", "0*1[01]*", "");
        // AA as often as possible, then A
        dueTrial("aAA,bA", 2, "0*1?", "0*1[01]+", "");
        // A before BC is taken for AB, and C stands nowhere
        dueTrial("aA,bAB,cBC", 3, "(?!.*02).*", "", ".*02.*");
    }

    /** The rows that come out the same, as another one, and those that are stuck. */
    private static void dueTrial(String page, int rules, String... patterns) {
        SpellTables x = withTable(page);
        for (int seed : new int[] {0, 3, 7, MOST}) {
            for (int times : new int[] {1, 2, 40}) {
                for (int what = 0; what < patterns.length; what++) {
                    due(page + ": trial(" + times + ", " + seed + ", " + what + ")",
                            drawnLike(patterns[what], times, seed, rules),
                            x.trial(times, seed, what));
                }
            }
        }
    }

    private static void trialErrors() {
        sentence(23, "Returns that value; OUTSIDE if an argument is out of range; STATE if there"
                + " are no rules.");
        SpellTables none = new SpellTables();
        for (int what = 0; what <= 3; what++) {
            due("no rules: trial(1, 0, " + what + ")", STATE, none.trial(1, 0, what));
            due("no rules: trial(40, MAX, " + what + ")", STATE, none.trial(40, MOST, what));
        }
        due("no rules: trial(0, 0, 0)", OUTSIDE, none.trial(0, 0, 0));
        due("no rules: trial(41, 0, 0)", OUTSIDE, none.trial(41, 0, 0));
        due("no rules: trial(1, -1, 0)", OUTSIDE, none.trial(1, -1, 0));
        due("no rules: trial(1, 0, -1)", OUTSIDE, none.trial(1, 0, -1));
        due("no rules: trial(1, 0, 4)", OUTSIDE, none.trial(1, 0, 4));
        SpellTables dropped = withTable("aA");
        dropped.drop(0);
        due("no rules any more: trial(1, 0, 0)", STATE, dropped.trial(1, 0, 0));
    }

    private static void trialChangesNothing() {
        sentence(23, "Simulates random rows; nothing changes.");
        SpellTables x = withText("aA,bAB,cBC", "ABC");
        x.mark(1);
        write(x, "ab");
        long before = x.digest();
        int answer = x.trial(40, 5, 3);
        due("what it changed", 0, x.digest() - before);
        due("the same call again", answer, x.trial(40, 5, 3));
        dueAll("the text stays", x::ink, codes("ABC"));
    }

    // ---- promises 24 and 25: totals

    private static void totals() {
        sentence(24, "0 rules; 1 characters of the page; 2 characters of the text; 3 rules that are"
                + " marked; 4 how often table() read a table; 5 how often turn() succeeded; 6 how"
                + " often text() succeeded");
        SpellTables x = withText(EIGHT, "A".repeat(56));
        markAll(x);
        write(x, "a".repeat(56));
        int[] full = {8, 56, 56, 8, 1, 0, 1};
        for (int what = 0; what <= 6; what++) {
            due("everything is full: count(" + what + ")", full[what], x.count(what));
        }
        due("table()", STATE, x.table());
        due("turn()", STATE, x.turn());
        due("text()", STATE, x.text());
        for (int what = 0; what <= 6; what++) {
            due("refused calls do not count: count(" + what + ")", full[what], x.count(what));
        }
        x.blank();
        write(x, "az");
        due("turn() that is stuck", -1001, x.turn());
        due("it does not count", 0, x.count(5));
        x.blank();
        due("turn() of none", 0, x.turn());
        due("text() of none", 0, x.text());
        write(x, "aA");
        due("table()", 1, x.table());
        int[] after = {1, 0, 0, 0, 2, 1, 2};
        for (int what = 0; what <= 6; what++) {
            due("after them: count(" + what + ")", after[what], x.count(what));
        }
    }

    private static void totalErrors() {
        sentence(24, "Returns the total; OUTSIDE if what is out of range.");
        SpellTables x = withText("aA", "A");
        due("count(0)", 1, x.count(0));
        due("count(6)", 1, x.count(6));
        for (int what : new int[] {-1, 7, LEAST, MOST}) {
            due("count(" + what + ")", OUTSIDE, x.count(what));
        }
    }

    /** The digest as the document says it, from what the other calls answer. */
    private static final class Hash {
        private long value = 1583;

        void put(int number) {
            value = 31 * value + number;
        }

        void putAll(Place part) {
            for (int place = 0; part.at(place) != UNKNOWN; place++) {
                put(part.at(place));
            }
        }
    }

    private static long digestOf(SpellTables x, String page) {
        Hash hash = new Hash();
        for (int rule = 0; rule < x.count(0); rule++) {
            int number = rule;
            for (int what = 0; what <= 4; what++) {
                hash.put(x.rule(rule, what));
            }
            hash.putAll(place -> x.sign(number, 0, place));
            hash.putAll(place -> x.sign(number, 1, place));
        }
        hash.putAll(x::ink);
        hash.put(x.back(0));
        hash.put(x.back(1));
        hash.putAll(x::backAt);
        hash.put(x.ways());
        hash.putAll(x::first);
        for (int what = 0; what <= 5; what++) {
            hash.put(x.clash(what));
        }
        hash.putAll(x::clashAt);
        hash.putAll(place -> x.clashing(0, place));
        hash.putAll(place -> x.clashing(1, place));
        for (int ahead = 0; ahead < x.clash(5); ahead++) {
            int number = ahead;
            hash.putAll(place -> x.aheadAt(number, place));
        }
        hash.put(x.parting(0));
        hash.put(x.parting(1));
        for (int code : codes(page)) {
            hash.put(code);
        }
        for (int what = 0; what <= 6; what++) {
            hash.put(x.count(what));
        }
        return hash.value;
    }

    private static void dueDigest(String state, SpellTables x, String page) {
        write(x, page);
        long first = x.digest();
        due("digest() of " + state, digestOf(x, page), first);
        due("digest() of " + state + " again", first, x.digest());
    }

    private static void digests() {
        sentence(25, "Starting with h = 1583, each of the following values v in order changes h to"
                + " 31 * h + v (long arithmetic with overflow)");
        dueDigest("a new object", new SpellTables(), "");
        dueDigest("a full page", new SpellTables(), "~ ".repeat(28));
        SpellTables noRules = new SpellTables();
        setText(noRules, "A'");
        dueDigest("a text without rules", noRules, "");
        dueDigest("an empty text", withTable("aA,bAB,cB"), "");
        dueDigest("a text that is stuck and that no row spells", withText("aA", "AB"), "");
        dueDigest("a text that is stuck but has a row", withText("aA,bAB,cBC", "ABC"), "");
        dueDigest("a clean table", withText("aA,bB", "AB"), "x");
        dueDigest("a clean table with remainders", withText("aA,bAB", "AB"), "x");
        dueDigest("a table without parting", withText("aA,bA,cA", "AA"), "x");
        SpellTables full = withText("aA,bAB,cBAA,dB,eAA", "AB".repeat(10));
        full.mark(2);
        full.mark(4);
        dueDigest("much of everything", full, "aA,");
        SpellTables dropped = withText("aA", "A");
        dropped.drop(0);
        dueDigest("a table whose only rule was dropped", dropped, "");
    }

    private static void digestOfNew() {
        sentence(25, "Returns a hash of the state.");
        long hash = 1583;
        int[] values = {0, -1, 1, 1, -1, -1, -1, -1, 0, 0, 0, 0, 0, 0, 0, 0, 0, 0};
        for (int value : values) {
            hash = 31 * hash + value;
        }
        SpellTables x = new SpellTables();
        due("digest() of a new object", hash, x.digest());
        due("digest() again", hash, x.digest());
        x.letter(32);
        due("digest() of another page", 0, x.digest() == hash ? 1 : 0);
        x.blank();
        due("digest() of the first state again", hash, x.digest());
        x.text();
        due("digest() of another total", hash + 1, x.digest());
    }

    private static void everyPromiseIsTested() {
        about = "the tests";
        for (int promise = 0; promise <= PROMISES; promise++) {
            due("tests of promise " + promise, 1, tested[promise] > 0 ? 1 : 0);
        }
    }

    private static void testDescription() {
        numberOfRules();
        leftSides();
        rightSides();
        signs();
        comparedByCodes();
        pageSize();
        pageAsTable();
        rows();
        orderOfRows();
        theText();
        longestMatch();
        untilTheEnd();
        encoding();
        cleanTables();
        leastClash();
        oneAndOther();
        orderOfRemainders();
        remaindersOfTwoSigns();
        remaindersOfSigns();
        remaindersOfRemainders();
        returnValues();
        firstError();
        refusedCalls();
        placesFromNought();
        lastCall();
    }

    private static void testTexts() {
        newObject();
        letterCodes();
        fullPage();
        blankPage();
        faultPlace();
        faultOfDoubles();
        noFault();
        newTable();
        noTable();
        turnedPage();
        emptyAfterTurn();
        stuckTurn();
        takenText();
        noText();
    }

    private static void testRulesAndText() {
        marks();
        markedRules();
        drops();
        rulesLeft();
        ruleLengths();
        ruleStarts();
        ruleErrors();
        signErrors();
        inkPlaces();
        backValues();
        backErrors();
        backPositions();
        waysOfNothing();
        waysModulo();
        firstRow();
    }

    private static void testClashesAndTotals() {
        clashValues();
        longClash();
        clashErrors();
        clashPlaces();
        clashingPositions();
        aheadNumbers();
        aheadPlaces();
        smallestParting();
        partingErrors();
        trialDraws();
        trialRanges();
        trialResults();
        trialErrors();
        trialChangesNothing();
        totals();
        totalErrors();
        digests();
        digestOfNew();
    }

    public static void main(String[] args) throws IOException {
        readDocument();
        testDescription();
        testTexts();
        testRulesAndText();
        testClashesAndTotals();
        everyPromiseIsTested();
        System.out.println(answers + " answers, " + wrong + " not as due");
        if (wrong != 0) {
            System.exit(1);
        }
    }
}
