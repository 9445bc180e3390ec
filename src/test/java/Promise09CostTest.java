/** cost: each kind of expression on pieces, what is INFINITE, and what is no piece. */
public final class Promise09CostTest {
    private static final Check CHECK = new Check();

    public static void main(String[] args) {
        atoms();
        rows();
        choices();
        suffixes();
        limits();
        piecesInside();
        noPieces();
        CHECK.end();
    }

    /** The cost on the whole text, with weights added 2, missing 3, wrong 4. */
    private static void cost(String expression, String text, int due) {
        FuzzyFinder x = Check.finder(expression, text);
        x.weights(2, 3, 4);
        CHECK.due("cost of " + expression + " on " + text, x.cost(0, text.length()), due);
    }

    private static void atoms() {
        cost("a", "", 3);
        cost("a", "a", 0);
        cost("a", "b", 4);
        cost("a", "bcad", 6);
        cost("a", "bcd", 8);
        cost(".", "", 3);
        cost(".", "z", 0);
        cost(".", "zz", 2);
        cost("[bc]", "b", 0);
        cost("[bc]", "c", 0);
        cost("[bc]", "a", 4);
        cost("[bc]", "aac", 4);
        cost("[^bc]", "b", 4);
        cost("[^bc]", "a", 0);
        cost("[^bc]", "z", 0);
        cost("[^bc]", "bcb", 8);
        cost("[^a]", "a", 4);
        cost("[^abcdefghijklmnopqrstuvwxyz]", "q", 4);
        cost("[a][b]", "aa", 4);
        cost("[^a][b]", "bc", 4);
        FuzzyFinder x = Check.finder("a", "bb");
        x.weights(1, 1, 9);
        CHECK.due("missing and added are less than wrong", x.cost(0, 2), 3);
    }

    private static void rows() {
        cost("ab", "ab", 0);
        cost("ab", "", 6);
        cost("ab", "b", 3);
        cost("ab", "axb", 2);
        cost("ab", "xaby", 4);
        cost("ab", "ba", 5);
        cost("abc", "ac", 3);
        cost("abcd", "axd", 7);
        cost("a(bc)d", "abcd", 0);
        cost("(ab)(cd)", "abxcd", 2);
    }

    private static void choices() {
        cost("a|b", "b", 0);
        cost("a|b", "c", 4);
        cost("a|bc", "bc", 0);
        cost("ab|cd|ef", "ef", 0);
        cost("ab|cd|ef", "cd", 0);
        cost("a(b|c)d", "acd", 0);
        cost("a|b|cc", "", 3);
    }

    private static void suffixes() {
        cost("a?", "", 0);
        cost("a?", "a", 0);
        cost("a?", "b", 2);
        cost("a*", "", 0);
        cost("a*", "aaa", 0);
        cost("a*", "aba", 2);
        cost("a*", "bb", 4);
        cost("a+", "", 3);
        cost("a+", "aa", 0);
        cost("a+", "b", 4);
        cost("a+", "bab", 4);
        cost("(ab)*", "abab", 0);
        cost("(ab)+", "abaxb", 2);
        cost("(ab)+", "", 6);
        cost("a*b*", "aabbb", 0);
        cost("(a|b)*c", "ababc", 0);
        cost("(a?)+", "", 0);
        cost("a+?", "", 0);
        cost("(a*b)+", "aabab", 0);
        // Nothing but the whole piece may be left out at ADDED: not a part of it beside others.
        cost("(a<0)*", "ab", 4);
        cost("(a<0)*", "aa", 0);
        cost("(a<0)+", "ab", -1);
        cost("(ab<0)+", "abab", 0);
        cost("((ab)<0)*", "abxab", 10);
        cost("((ab)<0)+", "abxab", -1);
        cost("((ab)<2)+", "abxab", 2);
    }

    private static void limits() {
        cost("a<0", "a", 0);
        cost("a<0", "b", -1);
        cost("a<3", "b", -1);
        cost("a<4", "b", 4);
        cost("a<04", "b", 4);
        cost("a<2", "", -1);
        cost("a<3", "", 3);
        cost("(abcdef)<17", "", -1);
        cost("(abcdef)<18", "", 18);
        cost("a<9<3", "b", -1);
        cost("a<3|b", "c", 4);
        cost("a<0b", "ab", 0);
        cost("a<0b", "a", 3);
        cost("a<0b", "b", -1);
        cost("a<0?", "b", 2);
        cost("a<0|b<0", "c", -1);
        cost("(a<0)?b", "b", 0);
        cost("a<99", "a", 0);
        cost("aa<0", "b", -1);
        cost("(ab)<0c", "abc", 0);
        cost("(a|b<0)c", "xc", 4);
    }

    private static void piecesInside() {
        FuzzyFinder x = Check.finder("ab", "bbbbbb");
        CHECK.due("cost(4, 4)", x.cost(4, 4), 2);
        Check.compile(x, "a?");
        CHECK.due("a? on [4, 4)", x.cost(4, 4), 0);
        x.weights(1, 2, 9);
        CHECK.due("a? on [2, 5)", x.cost(2, 5), 3);
        Check.compile(x, "a*");
        CHECK.due("a* on [2, 5)", x.cost(2, 5), 3);
        CHECK.due("a* on [6, 6)", x.cost(6, 6), 0);
        Check.compile(x, "a+");
        CHECK.due("a+ on [2, 5)", x.cost(2, 5), 5);
        Check.compile(x, "a");
        CHECK.due("a on [2, 5)", x.cost(2, 5), 5);
        CHECK.due("a on [3, 3)", x.cost(3, 3), 2);
        CHECK.due("a on [5, 6)", x.cost(5, 6), 3);
    }

    private static void noPieces() {
        FuzzyFinder x = Check.finder("a", "aaa");
        int[][] none = {
            {-1, 0}, {-1, -1}, {0, 4}, {4, 4}, {2, 1}, {3, 2}, {0, -1}, {Integer.MIN_VALUE, 3},
            {0, Integer.MAX_VALUE}, {Integer.MAX_VALUE, Integer.MAX_VALUE}, {1, 0}, {3, 4},
            {Integer.MIN_VALUE, Integer.MIN_VALUE}, {0, 25}, {25, 25},
        };
        for (int[] piece : none) {
            CHECK.due("cost(" + piece[0] + ", " + piece[1] + ")", x.cost(piece[0], piece[1]), -1);
        }
        CHECK.due("cost(3, 3)", x.cost(3, 3), 1);
        CHECK.due("cost(0, 3)", x.cost(0, 3), 2);
        CHECK.due("cost without a pattern", Check.finder("", "aaa").cost(0, 1), -1);
        FuzzyFinder full = Check.finder(".", "a".repeat(24));
        CHECK.due("cost(0, 24)", full.cost(0, 24), 23);
        CHECK.due("cost(24, 24)", full.cost(24, 24), 1);
        CHECK.due("cost(0, 25)", full.cost(0, 25), -1);
    }
}
