import java.math.BigInteger;
import java.util.ArrayList;
import java.util.Collections;
import java.util.Comparator;
import java.util.HashMap;
import java.util.HashSet;
import java.util.List;
import java.util.Map;
import java.util.PriorityQueue;
import java.util.Random;
import java.util.Set;
import java.util.TreeMap;
import java.util.TreeSet;

/**
 * Random runs of calls, each answered by SpellTables and by a slow second program that was written
 * straight from the document with texts and sets; every answer of the two must be the same.
 */
public final class OracleTest {
    private static final int RUNS = 850;
    // what an object answers after 512 calls is free; one step makes fewer than 100
    private static final int CALLS = 512;
    private static final int STEP = 100;
    private static final int SHORT = 8;

    // tables whose least clash is long; they were searched for
    private static final String[] HARD = {
        "BBA' BBA B' A' ABB AB BAA AAA",
        "BBA' CDA DB DBC BA' ACC CCD DDA",
        "BA D' CDB BDB' DBA ACD BAB' BAC",
        "AED ABB CAB EAE BEA EDC DA AB",
        "CBE A E' EDA BEC' DAC BED ACB"};

    private static final Comparator<String> BY_LENGTH =
            Comparator.comparingInt(String::length).thenComparing(Comparator.naturalOrder());

    private static int wrong = 0;
    private static int longest = 0;

    private static final class Oracle {
        final List<String> lefts = new ArrayList<>();
        final List<String> rights = new ArrayList<>();
        final List<Boolean> marks = new ArrayList<>();
        String page = "";
        String text = "";
        int tables = 0;
        int turns = 0;
        int texts = 0;

        int letter(int code) {
            if (code < 32 || code > 126) return -102;
            if (page.length() == 56) return -104;
            page += (char) code;
            return page.length();
        }

        int blank() {
            int had = page.length();
            page = "";
            return had;
        }

        private static boolean isTableShape(String page) {
            return page.matches("[a-z]{1,3}[A-Z]{1,3}(,[a-z]{1,3}[A-Z]{1,3}){0,7}");
        }

        private static boolean repeatsLeft(String page) {
            List<String> seen = new ArrayList<>();
            for (String part : page.split(",")) {
                String left = part.replaceAll("[A-Z]", "");
                boolean hasRight = part.length() > left.length();
                if (hasRight && seen.contains(left)) return true;
                seen.add(left);
            }
            return false;
        }

        int fault() {
            for (int size = 1; size <= page.length(); size++) {
                String start = page.substring(0, size);
                boolean canGoOn = isTableShape(start) || isTableShape(start + "A")
                        || isTableShape(start + "aA");
                if (!canGoOn || repeatsLeft(start)) return size - 1;
            }
            return page.length();
        }

        int table() {
            if (!isTableShape(page) || repeatsLeft(page)) return -103;
            lefts.clear();
            rights.clear();
            marks.clear();
            for (String part : page.split(",")) {
                lefts.add(part.replaceAll("[A-Z]", ""));
                rights.add(part.replaceAll("[a-z]", ""));
                marks.add(false);
            }
            text = "";
            page = "";
            tables++;
            return lefts.size();
        }

        int turn() {
            if (!page.matches("[a-z]{0,12}")) return -103;
            List<Integer> row = new ArrayList<>();
            int end = decode(lefts, page, row);
            if (end < page.length()) return -1000 - end;
            text = spell(row);
            page = "";
            turns++;
            return row.size();
        }

        int text() {
            if (!page.matches("[A-Z']*")) return -103;
            text = page;
            page = "";
            texts++;
            return text.length();
        }

        String signOf(int rule) {
            return rights.get(rule) + (marks.get(rule) ? "'" : "");
        }

        List<String> signs() {
            List<String> signs = new ArrayList<>();
            for (int rule = 0; rule < rights.size(); rule++) signs.add(signOf(rule));
            return signs;
        }

        String spell(List<Integer> row) {
            StringBuilder spelled = new StringBuilder();
            for (int rule : row) spelled.append(signOf(rule));
            return spelled.toString();
        }

        static int decode(List<String> words, String text, List<Integer> row) {
            int place = 0;
            while (place < text.length()) {
                int best = -1;
                for (int rule = 0; rule < words.size(); rule++) {
                    if (text.startsWith(words.get(rule), place)
                            && (best < 0 || words.get(rule).length() > words.get(best).length())) {
                        best = rule;
                    }
                }
                if (best < 0) return place;
                row.add(best);
                place += words.get(best).length();
            }
            return place;
        }

        boolean has(int rule) {
            return rule >= 0 && rule < lefts.size();
        }

        int mark(int rule) {
            if (!has(rule)) return -101;
            marks.set(rule, !marks.get(rule));
            return marks.get(rule) ? 1 : 0;
        }

        int drop(int rule) {
            if (!has(rule)) return -101;
            lefts.remove(rule);
            rights.remove(rule);
            marks.remove(rule);
            return lefts.size();
        }

        static int others(List<String> words, int rule) {
            int found = 0;
            for (int other = 0; other < words.size(); other++) {
                if (other != rule && words.get(other).startsWith(words.get(rule))) found++;
            }
            return found;
        }

        int rule(int rule, int what) {
            if (!has(rule)) return -101;
            if (what == 0) return lefts.get(rule).length();
            if (what == 1) return rights.get(rule).length();
            if (what == 2) return marks.get(rule) ? 1 : 0;
            if (what == 3) return others(signs(), rule);
            if (what == 4) return others(lefts, rule);
            return -102;
        }

        static int at(String text, int place) {
            return place >= 0 && place < text.length() ? text.charAt(place) : -101;
        }

        static int at(List<Integer> row, int place) {
            return place >= 0 && place < row.size() ? row.get(place) : -101;
        }

        int sign(int rule, int side, int place) {
            if (!has(rule)) return -101;
            if (side != 0 && side != 1) return -102;
            return at(side == 0 ? lefts.get(rule) : signOf(rule), place);
        }

        int ink(int place) {
            return at(text, place);
        }

        int back(int what) {
            if (what != 0 && what != 1) return -102;
            List<Integer> row = new ArrayList<>();
            int end = decode(signs(), text, row);
            return what == 0 ? row.size() : end < text.length() ? end : -1;
        }

        int backAt(int place) {
            List<Integer> row = new ArrayList<>();
            decode(signs(), text, row);
            return at(row, place);
        }

        static BigInteger rows(List<String> signs, String text, Map<String, BigInteger> known) {
            if (text.isEmpty()) return BigInteger.ONE;
            BigInteger before = known.get(text);
            if (before != null) return before;
            BigInteger sum = BigInteger.ZERO;
            for (String sign : signs) {
                if (text.startsWith(sign)) {
                    sum = sum.add(rows(signs, text.substring(sign.length()), known));
                }
            }
            known.put(text, sum);
            return sum;
        }

        static int rowsLeft(List<String> signs, String text) {
            return rows(signs, text, new HashMap<>()).mod(BigInteger.valueOf(1000000)).intValue();
        }

        /** The row that has so many rows before it, or null. */
        static List<Integer> rowNumber(List<String> signs, String text, int number) {
            Map<String, BigInteger> known = new HashMap<>();
            BigInteger skip = BigInteger.valueOf(number);
            if (rows(signs, text, known).compareTo(skip) <= 0) return null;
            List<Integer> row = new ArrayList<>();
            String rest = text;
            while (!rest.isEmpty()) {
                for (int rule = 0; rule < signs.size(); rule++) {
                    String sign = signs.get(rule);
                    if (!rest.startsWith(sign)) continue;
                    BigInteger behind = rows(signs, rest.substring(sign.length()), known);
                    if (skip.compareTo(behind) < 0) {
                        row.add(rule);
                        rest = rest.substring(sign.length());
                        break;
                    }
                    skip = skip.subtract(behind);
                }
            }
            return row;
        }

        int ways() {
            return rowsLeft(signs(), text);
        }

        List<Integer> firstRow() {
            List<Integer> row = rowNumber(signs(), text, 0);
            return row == null ? Collections.emptyList() : row;
        }

        int first(int place) {
            return at(firstRow(), place);
        }

        static TreeSet<String> remainders(List<String> signs) {
            TreeSet<String> found = new TreeSet<>(BY_LENGTH);
            for (int one = 0; one < signs.size(); one++) {
                for (int other = 0; other < signs.size(); other++) {
                    if (one != other && signs.get(other).startsWith(signs.get(one))) {
                        found.add(signs.get(other).substring(signs.get(one).length()));
                    }
                }
            }
            boolean grows = true;
            while (grows) {
                grows = false;
                for (String remainder : new ArrayList<>(found)) {
                    for (String sign : signs) {
                        if (!remainder.isEmpty() && sign.startsWith(remainder)) {
                            grows |= found.add(sign.substring(remainder.length()));
                        }
                        if (remainder.startsWith(sign)) {
                            grows |= found.add(remainder.substring(sign.length()));
                        }
                    }
                }
            }
            return found;
        }

        /** The least clash, or null: texts in their order, each with what one row is ahead. */
        static String leastClash(List<String> signs) {
            PriorityQueue<String[]> open = new PriorityQueue<>(
                    (a, b) -> BY_LENGTH.thenComparing(Comparator.naturalOrder())
                            .compare(a[0], b[0]));
            for (int one = 0; one < signs.size(); one++) {
                for (int other = 0; other < signs.size(); other++) {
                    if (one != other && signs.get(other).startsWith(signs.get(one))) {
                        open.add(new String[] {signs.get(other),
                            signs.get(other).substring(signs.get(one).length())});
                    }
                }
            }
            Set<String> closed = new HashSet<>();
            while (!open.isEmpty()) {
                String[] next = open.remove();
                if (next[1].isEmpty()) return next[0];
                if (!closed.add(next[1])) continue;
                for (String sign : signs) {
                    if (sign.startsWith(next[1])) {
                        String more = sign.substring(next[1].length());
                        open.add(new String[] {next[0] + more, more});
                    } else if (next[1].startsWith(sign)) {
                        open.add(new String[] {next[0], next[1].substring(sign.length())});
                    }
                }
            }
            return null;
        }

        /** The least clash of few characters by counting the rows of all texts, or null. */
        static String shortClash(List<String> signs) {
            List<TreeMap<String, Integer>> byLength = new ArrayList<>();
            TreeMap<String, Integer> none = new TreeMap<>();
            none.put("", 1);
            byLength.add(none);
            for (int length = 1; length <= SHORT; length++) {
                TreeMap<String, Integer> texts = new TreeMap<>();
                for (String sign : signs) {
                    if (sign.length() > length) continue;
                    byLength.get(length - sign.length()).forEach(
                            (text, rows) -> texts.merge(text + sign, rows, Integer::sum));
                }
                for (Map.Entry<String, Integer> text : texts.entrySet()) {
                    if (text.getValue() > 1) return text.getKey();
                }
                byLength.add(texts);
            }
            return null;
        }

        int clash(int what) {
            if (what < 0 || what > 5) return -102;
            List<String> signs = signs();
            String least = leastClash(signs);
            if (what == 5) return remainders(signs).size();
            if (what == 0) return least == null ? 1 : 0;
            if (least == null) return -1;
            if (what == 1) return least.length();
            if (what == 4) return rowsLeft(signs, least);
            return rowNumber(signs, least, what - 2).size();
        }

        int clashAt(int place) {
            String least = leastClash(signs());
            return least == null ? -101 : at(least, place);
        }

        int clashing(int which, int place) {
            if (which != 0 && which != 1) return -102;
            String least = leastClash(signs());
            return least == null ? -101 : at(rowNumber(signs(), least, which), place);
        }

        int ahead(int ahead) {
            List<String> all = new ArrayList<>(remainders(signs()));
            return ahead < 0 || ahead >= all.size() ? -101 : all.get(ahead).length();
        }

        int aheadAt(int ahead, int place) {
            List<String> all = new ArrayList<>(remainders(signs()));
            return ahead < 0 || ahead >= all.size() ? -101 : at(all.get(ahead), place);
        }

        int parting(int what) {
            if (what != 0 && what != 1) return -102;
            int best = -1;
            for (int set = 0; set < 1 << rights.size(); set++) {
                if (best >= 0 && Integer.bitCount(set) >= Integer.bitCount(best)) continue;
                List<String> signs = new ArrayList<>();
                for (int rule = 0; rule < rights.size(); rule++) {
                    signs.add(rights.get(rule) + ((set >> rule & 1) == 1 ? "'" : ""));
                }
                if (!remainders(signs).contains("")) best = set;
            }
            return best < 0 ? -1 : what == 0 ? Integer.bitCount(best) : best;
        }

        int trial(int times, int seed, int what) {
            if (times < 1 || times > 40 || seed < 0 || what < 0 || what > 3) return -102;
            if (lefts.isEmpty()) return -103;
            int[] results = new int[4];
            BigInteger x = BigInteger.valueOf(seed);
            for (int time = 0; time < times; time++) {
                x = next(x);
                int size = 1 + draw(x, 5);
                List<Integer> row = new ArrayList<>();
                for (int place = 0; place < size; place++) {
                    x = next(x);
                    row.add(draw(x, lefts.size()));
                }
                String spelled = spell(row);
                results[3] += spelled.length();
                List<Integer> decoded = new ArrayList<>();
                int end = decode(signs(), spelled, decoded);
                results[end < spelled.length() ? 2 : decoded.equals(row) ? 0 : 1]++;
            }
            return results[what];
        }

        private static BigInteger next(BigInteger x) {
            return BigInteger.valueOf(1103515245).multiply(x).add(BigInteger.valueOf(12345))
                    .mod(BigInteger.ONE.shiftLeft(31));
        }

        private static int draw(BigInteger x, int choices) {
            return x.divide(BigInteger.valueOf(65536)).mod(BigInteger.valueOf(choices)).intValue();
        }

        int count(int what) {
            int[] totals = {lefts.size(), page.length(), text.length(),
                Collections.frequency(marks, true), tables, turns, texts};
            return what < 0 || what > 6 ? -102 : totals[what];
        }

        long digest() {
            List<Long> values = new ArrayList<>();
            for (int rule = 0; rule < lefts.size(); rule++) {
                for (int what = 0; what <= 4; what++) values.add((long) rule(rule, what));
                put(values, lefts.get(rule));
                put(values, signOf(rule));
            }
            put(values, text);
            values.add((long) back(0));
            values.add((long) back(1));
            for (int place = 0; place < back(0); place++) values.add((long) backAt(place));
            values.add((long) ways());
            for (int rule : firstRow()) values.add((long) rule);
            for (int what = 0; what <= 5; what++) values.add((long) clash(what));
            for (int place = 0; place < clash(1); place++) values.add((long) clashAt(place));
            for (int which = 0; which <= 1; which++) {
                for (int place = 0; place < clash(2 + which); place++) {
                    values.add((long) clashing(which, place));
                }
            }
            for (String remainder : remainders(signs())) put(values, remainder);
            values.add((long) parting(0));
            values.add((long) parting(1));
            put(values, page);
            for (int what = 0; what <= 6; what++) values.add((long) count(what));
            long hash = 1583;
            for (long value : values) hash = 31 * hash + value;
            return hash;
        }

        private static void put(List<Long> values, String text) {
            for (char character : text.toCharArray()) values.add((long) character);
        }
    }

    /** One run of calls on a new object and on a new oracle. */
    private static final class Run {
        final SpellTables made = new SpellTables();
        final Oracle oracle = new Oracle();
        final StringBuilder story = new StringBuilder();
        final Random random;
        final int number;
        final String capitals;
        final String smalls;
        int calls = 0;

        Run(int number) {
            this.number = number;
            random = new Random(number);
            String[] capitalSets = {"A", "AB", "AB", "ABC", "ABCDEFGHIJKLMNOPQRSTUVWXYZ"};
            String[] smallSets = {"ab", "abc", "abcdefghijklmnopqrstuvwxyz"};
            capitals = capitalSets[random.nextInt(capitalSets.length)];
            smalls = smallSets[random.nextInt(smallSets.length)];
        }

        void same(String call, long got, long due) {
            calls++;
            story.append(' ').append(call).append('=').append(due);
            if (got != due) {
                wrong++;
                System.out.println("run " + number + ":" + story + " but it answered " + got);
            }
        }

        void letter(int code) {
            same("letter(" + code + ")", made.letter(code), oracle.letter(code));
        }

        void write(String page) {
            for (char character : page.toCharArray()) letter(character);
        }

        String word(String letters, int least, int most) {
            StringBuilder word = new StringBuilder();
            int size = least + random.nextInt(most - least + 1);
            for (int place = 0; place < size; place++) {
                word.append(letters.charAt(random.nextInt(letters.length())));
            }
            return word.toString();
        }

        void writeTable() {
            Set<String> lefts = new HashSet<>();
            StringBuilder page = new StringBuilder();
            int size = 1 + random.nextInt(8);
            for (int rule = 0; rule < size; rule++) {
                String left = word(smalls, 1, 3);
                // mostly a table, now and then one with a left side twice
                if (!lefts.add(left) && random.nextInt(12) > 0) continue;
                page.append(page.length() > 0 ? "," : "").append(left)
                        .append(word(capitals, 1, 3));
            }
            if (random.nextInt(10) == 0) {
                page.insert(random.nextInt(page.length() + 1), (char) (32 + random.nextInt(95)));
            }
            write(page.toString());
        }

        int edge(int most) {
            int[] far = {-1, Integer.MIN_VALUE, Integer.MAX_VALUE, most + 1, most + 2};
            return random.nextInt(12) == 0 ? far[random.nextInt(far.length)]
                    : random.nextInt(most + 1);
        }

        void change() {
            switch (random.nextInt(13)) {
                case 0, 1 -> {
                    same("blank()", made.blank(), oracle.blank());
                    writeTable();
                    same("fault()", made.fault(), oracle.fault());
                    same("table()", made.table(), oracle.table());
                }
                case 2, 3 -> {
                    same("blank()", made.blank(), oracle.blank());
                    write(word(smalls, 0, 13));
                    same("turn()", made.turn(), oracle.turn());
                }
                case 4, 5 -> {
                    same("blank()", made.blank(), oracle.blank());
                    write(word(capitals + "'", 0, random.nextInt(3) == 0 ? 58 : 9));
                    same("text()", made.text(), oracle.text());
                }
                case 6 -> same("table()", made.table(), oracle.table());
                case 7 -> same("turn()", made.turn(), oracle.turn());
                case 8 -> same("text()", made.text(), oracle.text());
                case 9 -> letter(random.nextInt(160) - 10);
                case 10, 11 -> {
                    int rule = edge(8);
                    same("mark(" + rule + ")", made.mark(rule), oracle.mark(rule));
                }
                default -> {
                    int rule = edge(8);
                    same("drop(" + rule + ")", made.drop(rule), oracle.drop(rule));
                }
            }
        }

        void ask() {
            int a = edge(9);
            int b = edge(5);
            int c = edge(4);
            same("fault()", made.fault(), oracle.fault());
            same("rule(" + a + ", " + b + ")", made.rule(a, b), oracle.rule(a, b));
            same("sign(" + a + ", " + (b - 1) + ", " + c + ")", made.sign(a, b - 1, c),
                    oracle.sign(a, b - 1, c));
            same("ink(" + a + ")", made.ink(a), oracle.ink(a));
            same("back(" + c + ")", made.back(c), oracle.back(c));
            same("backAt(" + a + ")", made.backAt(a), oracle.backAt(a));
            same("ways()", made.ways(), oracle.ways());
            same("first(" + a + ")", made.first(a), oracle.first(a));
            same("clash(" + b + ")", made.clash(b), oracle.clash(b));
            same("clashAt(" + a + ")", made.clashAt(a), oracle.clashAt(a));
            same("clashing(" + c + ", " + b + ")", made.clashing(c, b), oracle.clashing(c, b));
            same("ahead(" + a + ")", made.ahead(a), oracle.ahead(a));
            same("aheadAt(" + a + ", " + c + ")", made.aheadAt(a, c), oracle.aheadAt(a, c));
            if (random.nextInt(4) == 0) {
                same("parting(" + c + ")", made.parting(c), oracle.parting(c));
            }
            int seed = random.nextInt(3) == 0 ? random.nextInt() : random.nextInt(1000);
            int times = edge(40);
            same("trial(" + times + ", " + seed + ", " + c + ")", made.trial(times, seed, c),
                    oracle.trial(times, seed, c));
            same("count(" + b + ")", made.count(b), oracle.count(b));
            if (random.nextInt(3) == 0) {
                same("digest()", made.digest(), oracle.digest());
            }
        }

        void hardTable(String[] signs) {
            List<String> rules = new ArrayList<>();
            for (String sign : signs) {
                rules.add((char) ('a' + rules.size()) + sign.replace("'", ""));
            }
            write(String.join(",", rules));
            same("table()", made.table(), oracle.table());
            for (int rule = 0; rule < signs.length; rule++) {
                if (signs[rule].endsWith("'")) {
                    same("mark(" + rule + ")", made.mark(rule), oracle.mark(rule));
                }
            }
            for (int what = 0; what <= 5; what++) {
                same("clash(" + what + ")", made.clash(what), oracle.clash(what));
            }
            keepLongest();
            same("digest()", made.digest(), oracle.digest());
            for (int rule = signs.length - 1; rule >= 0; rule--) {
                same("mark(" + rule + ")", made.mark(rule), oracle.mark(rule));
                same("digest()", made.digest(), oracle.digest());
            }
        }

        void keepLongest() {
            calls++;
            longest = Math.max(longest, made.clash(1));
        }

        void shortClashes() {
            if (capitals.length() > 3) return;
            String due = Oracle.shortClash(oracle.signs());
            StringBuilder got = new StringBuilder();
            int size = made.clash(1);
            for (int place = 0; place < size; place++) {
                got.append((char) made.clashAt(place));
            }
            calls += 1 + got.length();
            boolean found = size > 0 && size <= SHORT;
            if (due == null ? found : !due.equals(got.toString())) {
                wrong++;
                System.out.println("run " + number + ":" + story + ": the least clash of "
                        + oracle.signs() + " is " + due + ", not " + got);
            }
        }
    }

    public static void main(String[] args) {
        for (int number = 0; number < RUNS && wrong < 5; number++) {
            Run run = new Run(number);
            while (run.calls + STEP <= CALLS && wrong < 5) {
                run.change();
                run.ask();
                run.keepLongest();
                if (run.random.nextInt(8) == 0) run.shortClashes();
            }
        }
        for (int hard = 0; hard < HARD.length; hard++) {
            Run run = new Run(RUNS + hard);
            run.hardTable(HARD[hard].split(" "));
        }
        System.out.println(wrong == 0
                ? "SpellTables and the oracle agree; the longest least clash had " + longest
                : "SpellTables and the oracle do not agree");
        if (wrong != 0) System.exit(1);
    }
}
