/**
 * Transliteration tables and unique decipherability: texts are encoded and decoded by the longest
 * match, ambiguous encodings are counted, the shortest ambiguous text is found, and the fewest
 * rules are marked so that nothing is ambiguous.
 */
public final class SpellTables {
    public static final int NONE = -1, UNKNOWN = -101, OUTSIDE = -102, STATE = -103, FULL = -104;

    private static final int LEAST_CODE = 32;
    private static final int GREATEST_CODE = 126;
    private static final int APOSTROPHE = 39;
    private static final int COMMA = 44;
    private static final int MOST_CHARACTERS = 56;
    private static final int MOST_TURNED = 12;
    private static final int MOST_RULES = 8;
    private static final int MOST_SIDE = 3;
    private static final int MOST_DRAWN = 5;
    private static final int MOST_TIMES = 40;
    // A remainder is a proper end of a sign: at most three of each sign are not empty, and the
    // empty one is one more.
    private static final int MOST_REMAINDERS = 25;
    private static final int MODULUS = 1000000;
    private static final int STUCK_AT = -1000;
    private static final long FIRST_HASH = 1583;

    private final Rules rules;
    private final Line page;
    private final Line inked;
    private final Line row;
    private final Reader reader;
    private final Spellings spellings;
    private final Clashes clashes;
    private final Partings partings;
    private final Trials trials;
    private boolean clashesKnown;
    private boolean partingsKnown;
    private int tablesRead;
    private int pagesTurned;
    private int textsTaken;

    public SpellTables() {
        rules = new Rules();
        page = new Line(MOST_CHARACTERS);
        inked = new Line(MOST_CHARACTERS);
        row = new Line(MOST_CHARACTERS);
        reader = new Reader();
        spellings = new Spellings();
        clashes = new Clashes();
        partings = new Partings();
        trials = new Trials();
        clashesKnown = false;
        partingsKnown = false;
        tablesRead = 0;
        pagesTurned = 0;
        textsTaken = 0;
    }

    // ---- texts

    public int letter(int code) {
        if (code < LEAST_CODE || code > GREATEST_CODE) {
            return OUTSIDE;
        }
        if (page.size() >= MOST_CHARACTERS) {
            return FULL;
        }
        page.add(code);
        return page.size();
    }

    public int blank() {
        int had = page.size();
        page.clear();
        return had;
    }

    public int fault() {
        return reader.read(page);
    }

    public int table() {
        if (!reader.readWhole(page)) {
            return STATE;
        }
        rules.replace(reader.lefts, reader.rights);
        forgetTable();
        inked.clear();
        page.clear();
        tablesRead++;
        return rules.size();
    }

    public int turn() {
        if (page.size() > MOST_TURNED || !onlySmall(page)) {
            return STATE;
        }
        int end = Match.decode(rules.lefts, page, row);
        if (end < page.size()) {
            return STUCK_AT - end;
        }
        rules.spell(row, inked);
        page.clear();
        pagesTurned++;
        return row.size();
    }

    public int text() {
        if (!onlyInk(page)) {
            return STATE;
        }
        inked.copy(page);
        page.clear();
        textsTaken++;
        return inked.size();
    }

    // ---- rules

    public int mark(int rule) {
        if (!rules.has(rule)) {
            return UNKNOWN;
        }
        rules.turnMark(rule);
        clashesKnown = false;
        return rules.isMarked(rule) ? 1 : 0;
    }

    public int drop(int rule) {
        if (!rules.has(rule)) {
            return UNKNOWN;
        }
        rules.remove(rule);
        forgetTable();
        return rules.size();
    }

    public int rule(int rule, int what) {
        if (!rules.has(rule)) {
            return UNKNOWN;
        }
        switch (what) {
            case 0:
                return Word.size(rules.lefts.at(rule));
            case 1:
                return Word.size(rules.rights.at(rule));
            case 2:
                return rules.isMarked(rule) ? 1 : 0;
            case 3:
                return Rules.othersBeginning(rules.signs, rule);
            case 4:
                return Rules.othersBeginning(rules.lefts, rule);
            default:
                return OUTSIDE;
        }
    }

    public int sign(int rule, int side, int place) {
        if (!rules.has(rule)) {
            return UNKNOWN;
        }
        if (side < 0 || side > 1) {
            return OUTSIDE;
        }
        return Word.character(side == 0 ? rules.lefts.at(rule) : rules.signs.at(rule), place);
    }

    // ---- the text

    public int ink(int place) {
        return inked.at(place);
    }

    public int back(int what) {
        if (what < 0 || what > 1) {
            return OUTSIDE;
        }
        int end = Match.decode(rules.signs, inked, row);
        if (what == 0) {
            return row.size();
        }
        return stuckPlace(end);
    }

    public int backAt(int place) {
        Match.decode(rules.signs, inked, row);
        return row.at(place);
    }

    public int ways() {
        spellings.weigh(rules.signs, inked);
        return spellings.total();
    }

    public int first(int place) {
        spellings.weigh(rules.signs, inked);
        spellings.pick(rules.signs, inked, 0, row);
        return row.at(place);
    }

    // ---- clashes

    public int clash(int what) {
        if (what < 0 || what > 5) {
            return OUTSIDE;
        }
        knowClashes();
        return clashes.value(what);
    }

    public int clashAt(int place) {
        knowClashes();
        return clashes.least.at(place);
    }

    public int clashing(int which, int place) {
        if (which < 0 || which > 1) {
            return OUTSIDE;
        }
        knowClashes();
        return which == 0 ? clashes.one.at(place) : clashes.other.at(place);
    }

    public int ahead(int ahead) {
        knowClashes();
        if (ahead < 0 || ahead >= clashes.remainders.words.size()) {
            return UNKNOWN;
        }
        return Word.size(clashes.remainders.words.at(ahead));
    }

    public int aheadAt(int ahead, int place) {
        knowClashes();
        if (ahead < 0 || ahead >= clashes.remainders.words.size()) {
            return UNKNOWN;
        }
        return Word.character(clashes.remainders.words.at(ahead), place);
    }

    public int parting(int what) {
        if (what < 0 || what > 1) {
            return OUTSIDE;
        }
        knowPartings();
        return partings.value(what);
    }

    public int trial(int times, int seed, int what) {
        if (times < 1 || times > MOST_TIMES || seed < 0 || what < 0 || what > 3) {
            return OUTSIDE;
        }
        if (rules.size() == 0) {
            return STATE;
        }
        trials.run(rules, times, seed);
        return trials.value(what);
    }

    // ---- totals

    public int count(int what) {
        switch (what) {
            case 0:
                return rules.size();
            case 1:
                return page.size();
            case 2:
                return inked.size();
            case 3:
                return rules.markedRules();
            case 4:
                return tablesRead;
            case 5:
                return pagesTurned;
            case 6:
                return textsTaken;
            default:
                return OUTSIDE;
        }
    }

    public long digest() {
        knowClashes();
        knowPartings();
        long hash = hashRules(FIRST_HASH);
        hash = hashLine(hash, inked);
        hash = hashRows(hash);
        hash = hashClashes(hash);
        hash = hashNumber(hash, partings.value(0));
        hash = hashNumber(hash, partings.value(1));
        hash = hashLine(hash, page);
        for (int what = 0; what <= 6; what++) {
            hash = hashNumber(hash, count(what));
        }
        return hash;
    }

    private long hashRules(long start) {
        long hash = start;
        for (int rule = 0; rule < rules.size(); rule++) {
            for (int what = 0; what <= 4; what++) {
                hash = hashNumber(hash, rule(rule, what));
            }
            hash = hashWord(hash, rules.lefts.at(rule));
            hash = hashWord(hash, rules.signs.at(rule));
        }
        return hash;
    }

    private long hashRows(long start) {
        int end = Match.decode(rules.signs, inked, row);
        long hash = hashNumber(start, row.size());
        hash = hashNumber(hash, stuckPlace(end));
        hash = hashLine(hash, row);
        spellings.weigh(rules.signs, inked);
        hash = hashNumber(hash, spellings.total());
        spellings.pick(rules.signs, inked, 0, row);
        return hashLine(hash, row);
    }

    private long hashClashes(long start) {
        long hash = start;
        for (int what = 0; what <= 5; what++) {
            hash = hashNumber(hash, clashes.value(what));
        }
        hash = hashLine(hash, clashes.least);
        hash = hashLine(hash, clashes.one);
        hash = hashLine(hash, clashes.other);
        for (int ahead = 0; ahead < clashes.remainders.words.size(); ahead++) {
            hash = hashWord(hash, clashes.remainders.words.at(ahead));
        }
        return hash;
    }

    private int stuckPlace(int end) {
        return end < inked.size() ? end : NONE;
    }

    private static long hashNumber(long hash, int number) {
        return 31 * hash + number;
    }

    private static long hashLine(long start, Line line) {
        long hash = start;
        for (int place = 0; place < line.size(); place++) {
            hash = hashNumber(hash, line.at(place));
        }
        return hash;
    }

    private static long hashWord(long start, int word) {
        long hash = start;
        int size = Word.size(word);
        for (int place = 0; place < size; place++) {
            hash = hashNumber(hash, Word.character(word, place));
        }
        return hash;
    }

    // The clashes and above all the parting are dear to find, so they are found when they are
    // first asked for and kept until the table changes; marks do not change the parting.
    private void forgetTable() {
        clashesKnown = false;
        partingsKnown = false;
    }

    private void knowClashes() {
        if (!clashesKnown) {
            clashes.find(rules.signs);
            clashesKnown = true;
        }
    }

    private void knowPartings() {
        if (!partingsKnown) {
            partings.find(rules);
            partingsKnown = true;
        }
    }

    private static boolean isSmall(int code) {
        return code >= 'a' && code <= 'z';
    }

    private static boolean isCapital(int code) {
        return code >= 'A' && code <= 'Z';
    }

    private static boolean onlySmall(Line line) {
        for (int place = 0; place < line.size(); place++) {
            if (!isSmall(line.at(place))) {
                return false;
            }
        }
        return true;
    }

    private static boolean onlyInk(Line line) {
        for (int place = 0; place < line.size(); place++) {
            int code = line.at(place);
            if (!isCapital(code) && code != APOSTROPHE) {
                return false;
            }
        }
        return true;
    }

    /**
     * Texts of at most four characters, each in one int: seven bits for a character, and a 1 in
     * front of the first one. So a longer word is always the greater number, and of two words of
     * the same length the later one by its characters: the order of the remainders.
     */
    private static final class Word {
        static final int EMPTY = 1;
        static final int BITS = 7;
        static final int ONES = 127;

        // No loop, because nothing is asked more often than the size of a word.
        static int size(int word) {
            if (word < 1 << (2 * BITS)) {
                return word < 1 << BITS ? 0 : 1;
            }
            if (word < 1 << (3 * BITS)) {
                return 2;
            }
            return word < 1 << (4 * BITS) ? 3 : 4;
        }

        static int append(int word, int code) {
            return (word << BITS) | (code & ONES);
        }

        static int character(int word, int place) {
            int size = size(word);
            if (place < 0 || place >= size) {
                return UNKNOWN;
            }
            return fromEnd(word, size - 1 - place);
        }

        /** The character that has so many others behind it. */
        static int fromEnd(int word, int others) {
            return (word >> (BITS * others)) & ONES;
        }

        static boolean begins(int word, int start) {
            int more = size(word) - size(start);
            return more >= 0 && (word >> (BITS * more)) == start;
        }

        /** What is left of a word behind a start with which it begins. */
        static int behind(int word, int start) {
            int bits = BITS * Math.max(0, size(word) - size(start));
            int front = 1 << bits;
            return front | (word & (front - 1));
        }
    }

    /** Numbers one behind the other: the characters of a text, the rules of a row, or words. */
    private static final class Line {
        private final int[] items;
        private int size;

        Line(int most) {
            items = new int[Math.max(0, most)];
            size = 0;
        }

        int size() {
            return size;
        }

        int at(int place) {
            return place < 0 || place >= size ? UNKNOWN : items[place];
        }

        int placeOf(int item) {
            for (int place = 0; place < size; place++) {
                if (items[place] == item) {
                    return place;
                }
            }
            return NONE;
        }

        void clear() {
            size = 0;
        }

        void add(int item) {
            if (size < items.length) {
                items[size] = item;
                size++;
            }
        }

        void addWord(int word) {
            for (int others = Word.size(word) - 1; others >= 0; others--) {
                add(Word.fromEnd(word, others));
            }
        }

        void copy(Line other) {
            size = other.size < items.length ? other.size : items.length;
            for (int place = 0; place < size; place++) {
                items[place] = other.items[place];
            }
        }

        void remove(int place) {
            if (place < 0 || place >= size) {
                return;
            }
            for (int next = place + 1; next < size; next++) {
                items[next - 1] = items[next];
            }
            size--;
        }

        void sort() {
            for (int sorted = 1; sorted < size; sorted++) {
                int item = items[sorted];
                int place = sorted;
                for (; place > 0 && items[place - 1] > item; place--) {
                    items[place] = items[place - 1];
                }
                items[place] = item;
            }
        }

        boolean isSame(Line other) {
            if (size != other.size) {
                return false;
            }
            for (int place = 0; place < size; place++) {
                if (items[place] != other.items[place]) {
                    return false;
                }
            }
            return true;
        }

        /** Whether this one is shorter, or as long and earlier by its numbers. */
        boolean isBefore(Line other) {
            if (size != other.size) {
                return size < other.size;
            }
            for (int place = 0; place < size; place++) {
                if (items[place] != other.items[place]) {
                    return items[place] < other.items[place];
                }
            }
            return false;
        }
    }

    /** Reads the page as a table; what it has read stays apart from the present table. */
    private static final class Reader {
        final Line lefts;
        final Line rights;
        private int left;
        private int right;

        Reader() {
            lefts = new Line(MOST_RULES);
            rights = new Line(MOST_RULES);
            left = Word.EMPTY;
            right = Word.EMPTY;
        }

        /** Returns the place of the first character that no table has there, or else the end. */
        int read(Line page) {
            lefts.clear();
            rights.clear();
            left = Word.EMPTY;
            right = Word.EMPTY;
            for (int place = 0; place < page.size(); place++) {
                if (!takes(page.at(place))) {
                    return place;
                }
            }
            return page.size();
        }

        boolean readWhole(Line page) {
            if (read(page) < page.size() || right == Word.EMPTY) {
                return false;
            }
            endRule();
            return true;
        }

        private boolean takes(int code) {
            if (isSmall(code)) {
                return takesSmall(code);
            }
            if (isCapital(code)) {
                return takesCapital(code);
            }
            return code == COMMA && takesComma();
        }

        private boolean takesSmall(int code) {
            if (right != Word.EMPTY || Word.size(left) >= MOST_SIDE) {
                return false;
            }
            left = Word.append(left, code);
            return true;
        }

        private boolean takesCapital(int code) {
            if (left == Word.EMPTY || Word.size(right) >= MOST_SIDE) {
                return false;
            }
            // Only here the left side is over, so only here it can be one that was there before.
            if (right == Word.EMPTY && lefts.placeOf(left) != NONE) {
                return false;
            }
            right = Word.append(right, code);
            return true;
        }

        private boolean takesComma() {
            if (right == Word.EMPTY || lefts.size() + 1 >= MOST_RULES) {
                return false;
            }
            endRule();
            return true;
        }

        private void endRule() {
            lefts.add(left);
            rights.add(right);
            left = Word.EMPTY;
            right = Word.EMPTY;
        }
    }

    /** The present table. */
    private static final class Rules {
        final Line lefts;
        final Line rights;
        final Line signs;
        private int marks;

        Rules() {
            lefts = new Line(MOST_RULES);
            rights = new Line(MOST_RULES);
            signs = new Line(MOST_RULES);
            marks = 0;
        }

        int size() {
            return lefts.size();
        }

        boolean has(int rule) {
            return rule >= 0 && rule < lefts.size();
        }

        boolean isMarked(int rule) {
            return has(rule) && ((marks >> rule) & 1) == 1;
        }

        int markedRules() {
            return Integer.bitCount(marks);
        }

        void replace(Line newLefts, Line newRights) {
            lefts.copy(newLefts);
            rights.copy(newRights);
            marks = 0;
            makeSigns(marks, signs);
        }

        void turnMark(int rule) {
            if (has(rule)) {
                marks ^= 1 << rule;
                makeSigns(marks, signs);
            }
        }

        void remove(int rule) {
            if (has(rule)) {
                lefts.remove(rule);
                rights.remove(rule);
                int before = marks & ((1 << rule) - 1);
                marks = before | ((marks >> (rule + 1)) << rule);
                makeSigns(marks, signs);
            }
        }

        /** The signs as they are if exactly the rules of a bit set are marked. */
        void makeSigns(int marked, Line made) {
            made.clear();
            for (int rule = 0; rule < rights.size(); rule++) {
                int right = rights.at(rule);
                boolean isMarked = ((marked >> rule) & 1) == 1;
                made.add(isMarked ? Word.append(right, APOSTROPHE) : right);
            }
        }

        void spell(Line row, Line spelled) {
            spelled.clear();
            for (int place = 0; place < row.size(); place++) {
                spelled.addWord(signs.at(row.at(place)));
            }
        }

        static int othersBeginning(Line words, int rule) {
            int found = 0;
            for (int other = 0; other < words.size(); other++) {
                if (other != rule && Word.begins(words.at(other), words.at(rule))) {
                    found++;
                }
            }
            return found;
        }
    }

    /** Words that stand in a text, and decoding by the longest match. */
    private static final class Match {

        /** The place behind the word if it stands at the place, else NONE. */
        static int endOf(int word, Line line, int place) {
            int end = place + Word.size(word);
            for (int next = place; next < end; next++) {
                if (line.at(next) != Word.fromEnd(word, end - 1 - next)) {
                    return NONE;
                }
            }
            return end;
        }

        static int longest(Line words, Line line, int place) {
            int best = NONE;
            int bestEnd = place;
            for (int rule = 0; rule < words.size(); rule++) {
                int end = endOf(words.at(rule), line, place);
                if (end > bestEnd) {
                    best = rule;
                    bestEnd = end;
                }
            }
            return best;
        }

        /** Fills the row with the rules and returns the place at which it ended. */
        static int decode(Line words, Line line, Line row) {
            row.clear();
            int place = 0;
            for (int step = 0; step < line.size() && place < line.size(); step++) {
                int rule = longest(words, line, place);
                if (rule == NONE) {
                    return place;
                }
                row.add(rule);
                place += Word.size(words.at(rule));
            }
            return place;
        }
    }

    /** All rows that spell a text: their number, and single ones of them in their order. */
    private static final class Spellings {
        // For each place the number of rows that spell the text from there on: modulo MODULUS,
        // and up to 2, because the number that is left of a modulus says nothing of "none".
        private final int[] rows;
        private final int[] upToTwo;
        private int end;

        Spellings() {
            rows = new int[MOST_CHARACTERS + 1];
            upToTwo = new int[MOST_CHARACTERS + 1];
            end = 0;
        }

        void weigh(Line signs, Line line) {
            end = Math.min(line.size(), MOST_CHARACTERS);
            rows[end] = 1;
            upToTwo[end] = 1;
            for (int place = end - 1; place >= 0; place--) {
                weighPlace(signs, line, place);
            }
        }

        private void weighPlace(Line signs, Line line, int place) {
            int sum = 0;
            int few = 0;
            for (int rule = 0; rule < signs.size(); rule++) {
                int next = Match.endOf(signs.at(rule), line, place);
                if (next > place && next <= end) {
                    sum = (sum + rows[next]) % MODULUS;
                    few = Math.min(2, few + upToTwo[next]);
                }
            }
            rows[place] = sum;
            upToTwo[place] = few;
        }

        int total() {
            return rows[0];
        }

        /** Fills the row with the first (0) or second (1) one; leaves it empty if there is none. */
        void pick(Line signs, Line line, int which, Line row) {
            row.clear();
            if (which >= upToTwo[0]) {
                return;
            }
            int skip = which;
            int place = 0;
            for (int step = 0; step < end && place < end; step++) {
                int next = place;
                for (int rule = 0; rule < signs.size() && next == place; rule++) {
                    int after = Match.endOf(signs.at(rule), line, place);
                    if (after > place && after <= end) {
                        if (skip < upToTwo[after]) {
                            row.add(rule);
                            next = after;
                        } else {
                            skip -= upToTwo[after];
                        }
                    }
                }
                place = next;
            }
        }
    }

    /** The remainders of a table; it is clean if the empty one is not among them. */
    private static final class Remainders {
        final Line words;
        private boolean emptyFound;

        Remainders() {
            words = new Line(MOST_REMAINDERS);
            emptyFound = false;
        }

        boolean areClean() {
            return !emptyFound;
        }

        void gather(Line signs) {
            start(signs);
            for (int next = 0; next < words.size() && next < MOST_REMAINDERS; next++) {
                follow(words.at(next), signs);
            }
            words.sort();
        }

        boolean wouldBeClean(Line signs) {
            start(signs);
            for (int next = 0; next < words.size() && next < MOST_REMAINDERS; next++) {
                if (emptyFound) {
                    return false;
                }
                follow(words.at(next), signs);
            }
            return !emptyFound;
        }

        private void start(Line signs) {
            words.clear();
            emptyFound = false;
            for (int shorter = 0; shorter < signs.size(); shorter++) {
                int start = signs.at(shorter);
                for (int longer = 0; longer < signs.size(); longer++) {
                    int sign = signs.at(longer);
                    if (shorter != longer && Word.begins(sign, start)) {
                        note(Word.behind(sign, start));
                    }
                }
            }
        }

        private void follow(int word, Line signs) {
            if (word == Word.EMPTY) {
                return;
            }
            for (int rule = 0; rule < signs.size(); rule++) {
                int sign = signs.at(rule);
                if (Word.begins(sign, word)) {
                    note(Word.behind(sign, word));
                } else if (Word.begins(word, sign)) {
                    note(Word.behind(word, sign));
                }
            }
        }

        private void note(int word) {
            if (words.placeOf(word) == NONE) {
                words.add(word);
            }
            if (word == Word.EMPTY) {
                emptyFound = true;
            }
        }
    }

    /** The remainders of the table and its least clash. */
    private static final class Clashes {
        final Remainders remainders;
        final Line least;
        final Line one;
        final Line other;
        // For each remainder the least text which one row spells whole and another one, with
        // another first rule, up to this remainder; empty as long as none has been found. It is
        // least by length and then by characters, and stays so whatever is put behind it; so the
        // text of the empty remainder is the least clash.
        private final Line[] texts;
        private final Line offered;
        private final Spellings spellings;

        Clashes() {
            remainders = new Remainders();
            least = new Line(MOST_CHARACTERS);
            one = new Line(MOST_CHARACTERS);
            other = new Line(MOST_CHARACTERS);
            texts = new Line[MOST_REMAINDERS];
            for (int number = 0; number < MOST_REMAINDERS; number++) {
                texts[number] = new Line(MOST_CHARACTERS);
            }
            offered = new Line(MOST_CHARACTERS);
            spellings = new Spellings();
        }

        int value(int what) {
            if (what == 5) {
                return remainders.words.size();
            }
            if (what == 0) {
                return remainders.areClean() ? 1 : 0;
            }
            if (remainders.areClean()) {
                return NONE;
            }
            switch (what) {
                case 1:
                    return least.size();
                case 2:
                    return one.size();
                case 3:
                    return other.size();
                default:
                    return spellings.total();
            }
        }

        void find(Line signs) {
            remainders.gather(signs);
            least.clear();
            one.clear();
            other.clear();
            if (remainders.areClean()) {
                return;
            }
            findTexts(signs);
            // the empty remainder is the first in their order
            least.copy(texts[0]);
            spellings.weigh(signs, least);
            spellings.pick(signs, least, 0, one);
            spellings.pick(signs, least, 1, other);
        }

        private void findTexts(Line signs) {
            for (int number = 0; number < MOST_REMAINDERS; number++) {
                texts[number].clear();
            }
            startTexts(signs);
            // The way to a least text never comes to a remainder twice, so this is enough.
            boolean changed = true;
            for (int pass = 0; pass < MOST_REMAINDERS && changed; pass++) {
                changed = false;
                for (int number = 0; number < remainders.words.size(); number++) {
                    changed |= followText(signs, number);
                }
            }
        }

        private void startTexts(Line signs) {
            for (int shorter = 0; shorter < signs.size(); shorter++) {
                int start = signs.at(shorter);
                for (int longer = 0; longer < signs.size(); longer++) {
                    int sign = signs.at(longer);
                    if (shorter != longer && Word.begins(sign, start)) {
                        offered.clear();
                        offered.addWord(sign);
                        take(Word.behind(sign, start));
                    }
                }
            }
        }

        private boolean followText(Line signs, int number) {
            int word = remainders.words.at(number);
            if (number < 0 || number >= MOST_REMAINDERS || word == Word.EMPTY
                    || texts[number].size() == 0) {
                return false;
            }
            boolean changed = false;
            for (int rule = 0; rule < signs.size(); rule++) {
                int sign = signs.at(rule);
                offered.copy(texts[number]);
                if (Word.begins(sign, word)) {
                    int behind = Word.behind(sign, word);
                    offered.addWord(behind);
                    changed |= take(behind);
                } else if (Word.begins(word, sign)) {
                    changed |= take(Word.behind(word, sign));
                }
            }
            return changed;
        }

        /** Takes the offered text for a remainder if it is less than the one that it has. */
        private boolean take(int word) {
            int number = remainders.words.placeOf(word);
            if (number < 0 || number >= MOST_REMAINDERS) {
                return false;
            }
            Line text = texts[number];
            if (text.size() > 0 && !offered.isBefore(text)) {
                return false;
            }
            text.copy(offered);
            return true;
        }
    }

    /** The smallest set of rules with whose marks alone the table would be clean. */
    private static final class Partings {
        private final Remainders remainders;
        private final Line signs;
        private int set;

        Partings() {
            remainders = new Remainders();
            signs = new Line(MOST_RULES);
            set = 0;
        }

        int value(int what) {
            if (set == NONE) {
                return NONE;
            }
            return what == 0 ? Integer.bitCount(set) : set;
        }

        void find(Rules rules) {
            set = NONE;
            int sets = 1 << rules.size();
            for (int marked = 0; marked <= rules.size(); marked++) {
                for (int tried = 0; tried < sets; tried++) {
                    if (Integer.bitCount(tried) == marked) {
                        rules.makeSigns(tried, signs);
                        if (remainders.wouldBeClean(signs)) {
                            set = tried;
                            return;
                        }
                    }
                }
            }
        }
    }

    /** Random rows that are spelled and decoded again. */
    private static final class Trials {
        private final Line row;
        private final Line spelled;
        private final Line decoded;
        private long drawn;
        private int same;
        private int another;
        private int stuck;
        private int characters;

        Trials() {
            row = new Line(MOST_DRAWN);
            spelled = new Line(MOST_CHARACTERS);
            decoded = new Line(MOST_CHARACTERS);
            drawn = 0;
            same = 0;
            another = 0;
            stuck = 0;
            characters = 0;
        }

        int value(int what) {
            switch (what) {
                case 0:
                    return same;
                case 1:
                    return another;
                case 2:
                    return stuck;
                default:
                    return characters;
            }
        }

        void run(Rules rules, int times, int seed) {
            drawn = seed;
            same = 0;
            another = 0;
            stuck = 0;
            characters = 0;
            for (int time = 0; time < times; time++) {
                drawRow(rules.size());
                tryRow(rules);
            }
        }

        private void drawRow(int rules) {
            row.clear();
            int size = 1 + draw(MOST_DRAWN);
            for (int place = 0; place < size; place++) {
                row.add(draw(rules));
            }
        }

        private void tryRow(Rules rules) {
            rules.spell(row, spelled);
            characters += spelled.size();
            int end = Match.decode(rules.signs, spelled, decoded);
            if (end < spelled.size()) {
                stuck++;
            } else if (decoded.isSame(row)) {
                same++;
            } else {
                another++;
            }
        }

        private int draw(int choices) {
            drawn = (1103515245L * drawn + 12345L) % 2147483648L;
            return choices > 0 ? (int) ((drawn / 65536L) % choices) : 0;
        }
    }
}
