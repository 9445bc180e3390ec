/**
 * Finds in a text what a pattern describes, or comes nearest to it, and tells which words of a
 * dictionary are near to the text. ../shared/DOC.md promises what each call answers.
 */
public final class FuzzyFinder {
    public static final int NONE = -1;
    public static final int GOOD = -1, TOO_LONG = -2;

    private static final int MOST_TYPED = 40;
    private static final int MOST_NODES = 24;
    private static final int MOST_BRACKETS = 6;
    private static final int MOST_LETTERS = 24;
    private static final int MOST_WORDS = 20;
    private static final int LONGEST_WORD = 12;
    private static final int HEAVIEST = 9;
    private static final int HIGHEST_BOUND = 999;

    private final char[] typed = new char[MOST_TYPED];
    private int typedCount = 0;
    private final ExpressionReader reader = new ExpressionReader();
    private final Pattern pattern = new Pattern();
    private final Letters text = new Letters();
    private final CostTable costs = new CostTable();
    private final Dictionary dictionary = new Dictionary();
    private int bound = 0;
    private int foundFrom = NONE;
    private int foundTo = NONE;

    public FuzzyFinder() {
    }

    public boolean type(char c) {
        if (c < 33 || c > 126 || typedCount >= MOST_TYPED) {
            return false;
        }
        typed[typedCount] = c;
        typedCount++;
        return true;
    }

    public int compile() {
        int fault = reader.read(typed, typedCount);
        typedCount = 0;
        if (fault != NONE) {
            return fault;
        }
        if (reader.draft.count > MOST_NODES) {
            return TOO_LONG;
        }
        pattern.copyFrom(reader.draft);
        costs.forget();
        forgetMatch();
        return GOOD;
    }

    public int nodes() {
        return pattern.count;
    }

    public boolean weights(int added, int missing, int wrong) {
        if (!isWeight(added) || !isWeight(missing) || !isWeight(wrong)) {
            return false;
        }
        costs.weigh(added, missing, wrong);
        forgetMatch();
        return true;
    }

    public boolean bound(int most) {
        if (most < 0 || most > HIGHEST_BOUND) {
            return false;
        }
        bound = most;
        forgetMatch();
        return true;
    }

    public boolean write(char c) {
        if (!isLetter(c) || text.count >= MOST_LETTERS) {
            return false;
        }
        text.append(c);
        forgetMatch();
        return true;
    }

    public void erase() {
        text.clear();
        costs.forget();
        forgetMatch();
    }

    public int cost(int i, int j) {
        if (pattern.count == 0 || i < 0 || j < i || j > text.count) {
            return NONE;
        }
        costs.learn(pattern, text);
        int cost = costs.ofWhole(pattern, i, j);
        return cost >= CostTable.INFINITE ? NONE : cost;
    }

    public int find(boolean best) {
        forgetMatch();
        if (pattern.count == 0) {
            return NONE;
        }
        costs.learn(pattern, text);
        int least = bound + 1;
        for (int i = 0; i <= text.count; i++) {
            // A longer piece comes first, so that of equal costs the greatest j stays.
            for (int j = text.count; j >= i; j--) {
                int cost = costs.ofWhole(pattern, i, j);
                if (cost < least) {
                    least = cost;
                    foundFrom = i;
                    foundTo = j;
                }
            }
            if (!best && foundFrom != NONE) {
                break;
            }
        }
        return foundFrom == NONE ? NONE : least;
    }

    public int from() {
        return foundFrom;
    }

    public int to() {
        return foundTo;
    }

    public int ends() {
        if (pattern.count == 0) {
            return 0;
        }
        costs.learn(pattern, text);
        int places = 0;
        for (int j = 0; j <= text.count; j++) {
            for (int i = 0; i <= j; i++) {
                if (costs.ofWhole(pattern, i, j) <= bound) {
                    places |= 1 << j;
                }
            }
        }
        return places;
    }

    public int add() {
        return dictionary.keep(text);
    }

    public int words() {
        return dictionary.count;
    }

    public int distance(int w, boolean exchange) {
        return dictionary.distanceOf(w, text, exchange);
    }

    public int near(int k, boolean exchange) {
        return dictionary.countWithin(k, text, exchange);
    }

    public int rank(int r, boolean exchange) {
        return dictionary.wordAtRank(r, text, exchange);
    }

    private void forgetMatch() {
        foundFrom = NONE;
        foundTo = NONE;
    }

    private static boolean isLetter(char c) {
        return c >= 'a' && c <= 'z';
    }

    private static boolean isDigit(char c) {
        return c >= '0' && c <= '9';
    }

    private static boolean isWeight(int weight) {
        return weight >= 0 && weight <= HEAVIEST;
    }

    /** Some letters a .. z in a row: the text, or a word. */
    private static final class Letters {
        private final char[] signs = new char[MOST_LETTERS];
        private int count = 0;

        private void append(char c) {
            if (count < signs.length) {
                signs[count] = c;
                count++;
            }
        }

        private void clear() {
            count = 0;
        }

        private char letterAt(int place) {
            return place >= 0 && place < count ? signs[place] : (char) 0;
        }

        private void copyFrom(Letters other) {
            clear();
            for (int place = 0; place < other.count; place++) {
                append(other.letterAt(place));
            }
        }

        /** Below 0, 0 or above 0, as these letters come before the others, are them, or come behind. */
        private int compareWith(Letters other) {
            int both = Math.min(count, other.count);
            for (int place = 0; place < both; place++) {
                int difference = letterAt(place) - other.letterAt(place);
                if (difference != 0) {
                    return difference;
                }
            }
            return count - other.count;
        }
    }

    /**
     * A pattern's nodes. The operands of a node stand before it, so the last node is the whole
     * pattern, and one pass from the first to the last can work out all of them.
     */
    private static final class Pattern {
        private static final int LETTER = 0, ROW = 1, EITHER = 2;
        private static final int MAYBE = 3, STAR = 4, PLUS = 5, LIMIT = 6;

        private final int[] kinds = new int[MOST_NODES];
        private final int[] lefts = new int[MOST_NODES];
        private final int[] rights = new int[MOST_NODES];
        /** The letters that fit a LETTER, bit 0 for a; the limit of a LIMIT; otherwise 0. */
        private final int[] values = new int[MOST_NODES];
        private int count = 0;

        private void clear() {
            count = 0;
        }

        /** Nodes beyond the most are counted, not kept: an expression with so many is no pattern. */
        private int put(int kind, int left, int right, int value) {
            int node = count;
            if (node < MOST_NODES) {
                kinds[node] = kind;
                lefts[node] = left;
                rights[node] = right;
                values[node] = value;
            }
            count++;
            return node;
        }

        private void changeValue(int node, int value) {
            if (node >= 0 && node < MOST_NODES) {
                values[node] = value;
            }
        }

        private void copyFrom(Pattern other) {
            clear();
            int kept = Math.min(other.count, MOST_NODES);
            for (int node = 0; node < kept; node++) {
                put(other.kinds[node], other.lefts[node], other.rights[node], other.values[node]);
            }
        }
    }

    /**
     * Reads an expression character by character into its draft. What may come next depends only
     * on the state and on the number of open brackets, so the first character that is refused is
     * the fault.
     */
    private static final class ExpressionReader {
        private static final int ATOM_DUE = 0, ITEM_DONE = 1;
        private static final int LIMIT_DUE = 2, LIMIT_BEGUN = 3;
        private static final int SET_BEGUN = 4, SET_LETTER_DUE = 5, SET_FILLED = 6;
        private static final int ALL_LETTERS = (1 << 26) - 1;

        private final Pattern draft = new Pattern();
        private int state = ATOM_DUE;
        private int depth = 0;
        // Of each open bracket: the last item, the row before it and the rows before that one.
        private final int[] items = new int[MOST_BRACKETS + 1];
        private final int[] rows = new int[MOST_BRACKETS + 1];
        private final int[] choices = new int[MOST_BRACKETS + 1];
        private int setLetters = 0;
        private boolean setIsOfOthers = false;
        private int limit = 0;

        /** NONE when the characters are an expression, which the draft holds then; or their fault. */
        private int read(char[] characters, int number) {
            draft.clear();
            depth = 0;
            beginBracket();
            for (int place = 0; place < number && place < characters.length; place++) {
                if (!take(characters[place])) {
                    return place;
                }
            }
            if (depth > 0 || (state != ITEM_DONE && state != LIMIT_BEGUN)) {
                return number;
            }
            endItem();
            endRow();
            return NONE;
        }

        private boolean take(char c) {
            switch (state) {
                case ATOM_DUE:
                    return takeAtom(c);
                case LIMIT_DUE:
                    return takeFirstDigit(c);
                case LIMIT_BEGUN:
                    return takeSecondDigit(c) || takeAfterItem(c);
                case SET_BEGUN:
                    return takeOthersSign(c) || takeSetLetter(c);
                case SET_LETTER_DUE:
                    return takeSetLetter(c);
                case SET_FILLED:
                    return takeSetLetter(c) || takeSetEnd(c);
                default:
                    return takeAfterItem(c);
            }
        }

        private boolean takeAtom(char c) {
            if (isLetter(c)) {
                endAtom(bitOf(c));
                return true;
            }
            switch (c) {
                case '.':
                    endAtom(ALL_LETTERS);
                    return true;
                case '[':
                    setLetters = 0;
                    setIsOfOthers = false;
                    state = SET_BEGUN;
                    return true;
                case '(':
                    return takeOpening();
                default:
                    return false;
            }
        }

        private boolean takeOpening() {
            if (depth >= MOST_BRACKETS) {
                return false;
            }
            depth++;
            beginBracket();
            return true;
        }

        private boolean takeOthersSign(char c) {
            if (c != '^') {
                return false;
            }
            setIsOfOthers = true;
            state = SET_LETTER_DUE;
            return true;
        }

        private boolean takeSetLetter(char c) {
            if (!isLetter(c)) {
                return false;
            }
            setLetters |= bitOf(c);
            state = SET_FILLED;
            return true;
        }

        private boolean takeSetEnd(char c) {
            if (c != ']') {
                return false;
            }
            endAtom(setIsOfOthers ? ALL_LETTERS & ~setLetters : setLetters);
            return true;
        }

        private boolean takeFirstDigit(char c) {
            if (!isDigit(c)) {
                return false;
            }
            limit = c - '0';
            endSuffix(Pattern.LIMIT, limit);
            state = LIMIT_BEGUN;
            return true;
        }

        private boolean takeSecondDigit(char c) {
            if (!isDigit(c)) {
                return false;
            }
            draft.changeValue(items[depth], limit * 10 + (c - '0'));
            state = ITEM_DONE;
            return true;
        }

        private boolean takeAfterItem(char c) {
            if (takeSuffix(c)) {
                return true;
            }
            endItem();
            switch (c) {
                case '|':
                    endRow();
                    state = ATOM_DUE;
                    return true;
                case ')':
                    return takeClosing();
                default:
                    return takeAtom(c);
            }
        }

        private boolean takeSuffix(char c) {
            switch (c) {
                case '*':
                    endSuffix(Pattern.STAR, 0);
                    return true;
                case '+':
                    endSuffix(Pattern.PLUS, 0);
                    return true;
                case '?':
                    endSuffix(Pattern.MAYBE, 0);
                    return true;
                case '<':
                    state = LIMIT_DUE;
                    return true;
                default:
                    return false;
            }
        }

        private boolean takeClosing() {
            if (depth == 0) {
                return false;
            }
            endRow();
            int inside = choices[depth];
            depth--;
            items[depth] = inside;
            state = ITEM_DONE;
            return true;
        }

        private void beginBracket() {
            items[depth] = NONE;
            rows[depth] = NONE;
            choices[depth] = NONE;
            state = ATOM_DUE;
        }

        private void endAtom(int fitting) {
            items[depth] = draft.put(Pattern.LETTER, NONE, NONE, fitting);
            state = ITEM_DONE;
        }

        private void endSuffix(int kind, int value) {
            items[depth] = draft.put(kind, items[depth], NONE, value);
            state = ITEM_DONE;
        }

        private void endItem() {
            int before = rows[depth];
            int item = items[depth];
            rows[depth] = before == NONE ? item : draft.put(Pattern.ROW, before, item, 0);
        }

        private void endRow() {
            int before = choices[depth];
            int row = rows[depth];
            choices[depth] = before == NONE ? row : draft.put(Pattern.EITHER, before, row, 0);
            rows[depth] = NONE;
        }

        private static int bitOf(char letter) {
            return 1 << (letter - 'a');
        }
    }

    /**
     * The costs of a pattern's nodes on the pieces of a text. A column j holds the pieces that end
     * at j. It needs no column behind it, so what is known stays when the text grows.
     */
    private static final class CostTable {
        /** Far above every finite cost, and low enough that two of them can be added. */
        private static final int INFINITE = 1 << 28;
        private static final int PIECES = (MOST_LETTERS + 1) * (MOST_LETTERS + 2) / 2;

        private final int[][] costsOfNodes = new int[MOST_NODES][PIECES];
        private final int[] chains = new int[MOST_LETTERS + 1];
        private int knownColumns = 0;
        private int added = 1;
        private int missing = 1;
        private int wrong = 1;

        private void weigh(int newAdded, int newMissing, int newWrong) {
            added = newAdded;
            missing = newMissing;
            wrong = newWrong;
            forget();
        }

        private void forget() {
            knownColumns = 0;
        }

        private void learn(Pattern pattern, Letters text) {
            for (int j = knownColumns; j <= text.count; j++) {
                for (int node = 0; node < pattern.count; node++) {
                    fillColumn(pattern, node, text, j);
                }
            }
            knownColumns = text.count + 1;
        }

        private int ofWhole(Pattern pattern, int i, int j) {
            if (pattern.count < 1 || i < 0 || j < i || j >= knownColumns) {
                return INFINITE;
            }
            return costsOfNodes[pattern.count - 1][pieceAt(i, j)];
        }

        private void fillColumn(Pattern pattern, int node, Letters text, int j) {
            int[] filled = costsOfNodes[node];
            int value = pattern.values[node];
            if (pattern.kinds[node] == Pattern.LETTER) {
                fillLetter(filled, value, text, j);
                return;
            }
            int[] left = costsOfNodes[operand(pattern.lefts[node], node)];
            int[] right = costsOfNodes[operand(pattern.rights[node], node)];
            switch (pattern.kinds[node]) {
                case Pattern.ROW:
                    fillRow(filled, left, right, j);
                    break;
                case Pattern.EITHER:
                    fillEither(filled, left, right, j);
                    break;
                case Pattern.MAYBE:
                    fillMaybe(filled, left, j);
                    break;
                case Pattern.LIMIT:
                    fillLimit(filled, left, value, j);
                    break;
                default:
                    fillChains(left, j);
                    fillRepeated(filled, pattern.kinds[node] == Pattern.STAR, j);
                    break;
            }
        }

        /** A suffix has no right operand, and uses none: any node's costs will do there. */
        private static int operand(int place, int node) {
            return place >= 0 && place < node ? place : 0;
        }

        private void fillLetter(int[] filled, int fitting, Letters text, int j) {
            boolean fits = false;
            filled[pieceAt(j, j)] = missing;
            for (int i = j - 1; i >= 0; i--) {
                fits = fits || ((fitting >> (text.letterAt(i) - 'a')) & 1) == 1;
                int most = missing + (j - i) * added;
                int taken = (j - i - 1) * added + (fits ? 0 : wrong);
                filled[pieceAt(i, j)] = Math.min(most, taken);
            }
        }

        private void fillRow(int[] filled, int[] left, int[] right, int j) {
            for (int i = 0; i <= j; i++) {
                int least = INFINITE;
                for (int k = i; k <= j; k++) {
                    least = Math.min(least, left[pieceAt(i, k)] + right[pieceAt(k, j)]);
                }
                filled[pieceAt(i, j)] = least;
            }
        }

        private void fillEither(int[] filled, int[] left, int[] right, int j) {
            for (int i = 0; i <= j; i++) {
                filled[pieceAt(i, j)] = Math.min(left[pieceAt(i, j)], right[pieceAt(i, j)]);
            }
        }

        private void fillMaybe(int[] filled, int[] inner, int j) {
            for (int i = 0; i <= j; i++) {
                filled[pieceAt(i, j)] = Math.min((j - i) * added, inner[pieceAt(i, j)]);
            }
        }

        private void fillLimit(int[] filled, int[] inner, int limit, int j) {
            for (int i = 0; i <= j; i++) {
                int cost = inner[pieceAt(i, j)];
                filled[pieceAt(i, j)] = cost <= limit ? cost : INFINITE;
            }
        }

        /**
         * The least sums of the costs on one or more pieces that make up [i, j). No cost is below
         * 0, so empty pieces among them can not make a sum less and are left out.
         */
        private void fillChains(int[] inner, int j) {
            for (int i = j; i >= 0; i--) {
                int least = inner[pieceAt(i, j)];
                for (int k = i + 1; k < j; k++) {
                    least = Math.min(least, inner[pieceAt(i, k)] + chains[k]);
                }
                chains[i] = least;
            }
        }

        private void fillRepeated(int[] filled, boolean mayBeNone, int j) {
            for (int i = 0; i <= j; i++) {
                int none = mayBeNone ? (j - i) * added : INFINITE;
                filled[pieceAt(i, j)] = Math.min(none, chains[i]);
            }
        }

        private static int pieceAt(int i, int j) {
            return j * (j + 1) / 2 + i;
        }
    }

    /** The words, and their distances from a text. */
    private static final class Dictionary {
        private final Letters[] entries = new Letters[MOST_WORDS];
        private int count = 0;
        private final int[] distances = new int[MOST_WORDS];
        private final int[][] steps = new int[LONGEST_WORD + 1][MOST_LETTERS + 1];

        private Dictionary() {
            for (int w = 0; w < MOST_WORDS; w++) {
                entries[w] = new Letters();
            }
        }

        private int keep(Letters text) {
            boolean fits = text.count >= 1 && text.count <= LONGEST_WORD && count < MOST_WORDS;
            if (!fits || holds(text)) {
                return NONE;
            }
            entries[count].copyFrom(text);
            count++;
            return count - 1;
        }

        private boolean holds(Letters text) {
            for (int w = 0; w < count; w++) {
                if (entries[w].compareWith(text) == 0) {
                    return true;
                }
            }
            return false;
        }

        private int distanceOf(int w, Letters text, boolean exchange) {
            if (w < 0 || w >= count) {
                return NONE;
            }
            Letters word = entries[w];
            for (int p = 0; p <= word.count; p++) {
                for (int q = 0; q <= text.count; q++) {
                    steps[p][q] = leastSteps(word, text, p, q, exchange);
                }
            }
            return steps[word.count][text.count];
        }

        /** The steps between the first p letters of the word and the first q of the text. */
        private int leastSteps(Letters word, Letters text, int p, int q, boolean exchange) {
            if (p <= 0 || q <= 0) {
                return Math.max(p, q);
            }
            int least = Math.min(steps[p - 1][q], steps[p][q - 1]) + 1;
            boolean same = word.letterAt(p - 1) == text.letterAt(q - 1);
            least = Math.min(least, steps[p - 1][q - 1] + (same ? 0 : 1));
            if (exchange && p >= 2 && q >= 2 && areExchanged(word, text, p, q)) {
                least = Math.min(least, steps[p - 2][q - 2] + 1);
            }
            return least;
        }

        private static boolean areExchanged(Letters word, Letters text, int p, int q) {
            return word.letterAt(p - 2) == text.letterAt(q - 1)
                && word.letterAt(p - 1) == text.letterAt(q - 2);
        }

        private int countWithin(int most, Letters text, boolean exchange) {
            int near = 0;
            for (int w = 0; w < count; w++) {
                if (distanceOf(w, text, exchange) <= most) {
                    near++;
                }
            }
            return near;
        }

        private int wordAtRank(int rank, Letters text, boolean exchange) {
            for (int w = 0; w < count; w++) {
                distances[w] = distanceOf(w, text, exchange);
            }
            for (int w = 0; w < count; w++) {
                if (rankOf(w) == rank) {
                    return w;
                }
            }
            return NONE;
        }

        private int rankOf(int w) {
            int before = 0;
            for (int other = 0; other < count; other++) {
                if (comesBefore(other, w)) {
                    before++;
                }
            }
            return before;
        }

        private boolean comesBefore(int other, int w) {
            if (distances[other] != distances[w]) {
                return distances[other] < distances[w];
            }
            return entries[other].compareWith(entries[w]) < 0;
        }
    }
}
