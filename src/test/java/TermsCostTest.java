/** What an expression costs on a piece, kind by kind. */
public final class TermsCostTest {
    private static final String ALPHABET = "abcdefghijklmnopqrstuvwxyz";

    public static void main(String[] args) {
        Sentences told = new Sentences("terms of costs");
        told.test("a letter: MISSING + n * ADDED", TermsCostTest::missing);
        told.test("if n is 1 or more, (n - 1) * ADDED, if some letter of the piece fits", TermsCostTest::fitting);
        told.test("or else (n - 1) * ADDED + WRONG", TermsCostTest::wrong);
        told.test("the least of them, weights 0 and 9", TermsCostTest::leastOfBoth);
        told.test("a letter (it FITS itself)", TermsCostTest::lettersFit);
        told.test(". (all letters fit)", TermsCostTest::allFit);
        told.test("[letters] (these fit), [^letters] (all others fit)", TermsCostTest::setsFit);
        told.test("a row: the least sum on pieces that follow one another", TermsCostTest::rows);
        told.test("some may be empty", TermsCostTest::emptyPiecesInRows);
        told.test("sums with INFINITE are INFINITE", TermsCostTest::infiniteSums);
        told.test("x | y: the lesser one of both costs", TermsCostTest::choices);
        told.test("x ? : the lesser one of n * ADDED and the cost of x", TermsCostTest::maybe);
        told.test("x * : n * ADDED and sums on one or more pieces", TermsCostTest::stars);
        told.test("x * : n * ADDED is for the whole piece alone", TermsCostTest::starsOfParts);
        told.test("x + : as x * , but without n * ADDED", TermsCostTest::pluses);
        told.test("x < LIMIT : the cost of x if it is at most the limit", TermsCostTest::limits);
        told.test("else INFINITE", TermsCostTest::beyondLimits);
        told.test("bounds for parts of the pattern", TermsCostTest::limitsOfParts);
        told.end();
    }

    private static void cost(Check check, String expression, String text, int due) {
        cost(check, expression, text, 2, 3, 4, due);
    }

    /** Of a new object, and of one that was used; as the whole text, and as a piece at each place of one. */
    private static void cost(Check check, String expression, String text, int added, int missing, int wrong, int due) {
        int length = text.length();
        String call = "cost of " + expression + " on " + text + " with " + added + ", " + missing + ", " + wrong;
        FuzzyFinder x = Check.finder(expression, text);
        x.weights(added, missing, wrong);
        check.due(call, x.cost(0, length), due);

        FuzzyFinder y = used();
        Check.compile(y, expression);
        y.weights(added, missing, wrong);
        for (int place = 0; place + length <= 24; place += 6) {
            Check.rewrite(y, "a".repeat(place) + text + "b".repeat(24 - place - length));
            check.due(call + " at place " + place, y.cost(place, place + length), due);
        }
    }

    /** Has worked out the costs of as many nodes on as many pieces as there can be; none of them is 0. */
    private static FuzzyFinder used() {
        FuzzyFinder x = Check.finder("abcdefghijkl+", "z".repeat(24));
        x.weights(9, 9, 9);
        x.ends();
        return x;
    }

    private static void missing(Check check) {
        cost(check, "a", "", 3);
        cost(check, "a", "", 9, 0, 9, 0);
        cost(check, "a", "", 0, 9, 0, 9);
        cost(check, "a", "b", 2, 3, 9, 5);
        cost(check, "a", "bb", 2, 3, 9, 7);
        cost(check, "a", "b".repeat(24), 2, 3, 9, 51);
        cost(check, "a", "b".repeat(24), 9, 0, 9, 216);
    }

    private static void fitting(Check check) {
        cost(check, "a", "a", 0);
        cost(check, "a", "ab", 2);
        cost(check, "a", "ba", 2);
        cost(check, "a", "bab", 4);
        cost(check, "a", "aa", 2);
        cost(check, "a", "a" + "b".repeat(23), 46);
        cost(check, "a", "b".repeat(23) + "a", 46);
        cost(check, "a", "b".repeat(12) + "a" + "b".repeat(11), 46);
        cost(check, "a", "a".repeat(24), 46);
        cost(check, "a", "a", 9, 9, 9, 0);
        // On no letters nothing can fit.
        cost(check, ".", "", 9, 9, 9, 9);
    }

    private static void wrong(Check check) {
        cost(check, "a", "b", 4);
        cost(check, "a", "bb", 6);
        cost(check, "a", "b".repeat(24), 50);
        cost(check, "a", "", 2, 3, 0, 3);
        cost(check, "a", "b", 2, 3, 0, 0);
        cost(check, "a", "bb", 2, 3, 0, 2);
    }

    private static void leastOfBoth(Check check) {
        cost(check, "a", "b", 2, 3, 4, 4);
        cost(check, "a", "b", 2, 3, 5, 5);
        cost(check, "a", "b", 2, 3, 6, 5);
        cost(check, "a", "bb", 2, 3, 5, 7);
        cost(check, "a", "bb", 2, 3, 6, 7);
        cost(check, "a", "b", 0, 0, 9, 0);
        cost(check, "a", "b", 9, 0, 9, 9);
        cost(check, "a", "b", 0, 9, 9, 9);
        cost(check, "a", "b", 9, 9, 9, 9);
        cost(check, "a", "b", 0, 0, 0, 0);
        cost(check, "a", "", 0, 0, 0, 0);
        cost(check, "a", "b".repeat(24), 0, 0, 0, 0);
        cost(check, "a", "b".repeat(24), 9, 9, 9, 216);
        cost(check, "a", "b".repeat(24), 9, 9, 0, 207);
    }

    private static void lettersFit(Check check) {
        for (char own : ALPHABET.toCharArray()) {
            FuzzyFinder x = Check.finder(String.valueOf(own), "");
            for (char other : ALPHABET.toCharArray()) {
                Check.rewrite(x, String.valueOf(other));
                check.due(own + " on " + other, x.cost(0, 1), own == other ? 0 : 1);
            }
        }
    }

    private static void allFit(Check check) {
        FuzzyFinder x = Check.finder(".", "");
        for (char letter : ALPHABET.toCharArray()) {
            Check.rewrite(x, String.valueOf(letter));
            check.due(". on " + letter, x.cost(0, 1), 0);
        }
    }

    private static void setsFit(Check check) {
        for (String letters : new String[] {"a", "z", "az", "aa", "mno", "zyx", ALPHABET}) {
            FuzzyFinder these = Check.finder("[" + letters + "]", "");
            FuzzyFinder others = Check.finder("[^" + letters + "]", "");
            for (char letter : ALPHABET.toCharArray()) {
                Check.rewrite(these, String.valueOf(letter));
                Check.rewrite(others, String.valueOf(letter));
                boolean isThere = letters.indexOf(letter) >= 0;
                check.due("[" + letters + "] on " + letter, these.cost(0, 1), isThere ? 0 : 1);
                check.due("[^" + letters + "] on " + letter, others.cost(0, 1), isThere ? 1 : 0);
            }
        }
        cost(check, "[bc]", "aac", 4);
        cost(check, "[^bc]", "bcb", 8);
        cost(check, "[^bc]", "bca", 4);
        cost(check, "[bc]", "", 3);
        cost(check, "[^bc]", "", 3);
        // One set keeps nothing of the one before it.
        cost(check, "[a][b]", "ab", 0);
        cost(check, "[a][b]", "aa", 4);
        cost(check, "[^a][b]", "bc", 4);
        cost(check, "[^a][b]", "bb", 0);
    }

    private static void rows(Check check) {
        cost(check, "ab", "ab", 0);
        cost(check, "ab", "ba", 5);
        cost(check, "ab", "axb", 2);
        cost(check, "ab", "xaby", 4);
        cost(check, "abcd", "axd", 7);
        cost(check, "a(bc)d", "abcd", 0);
        cost(check, "(ab)(cd)", "abxcd", 2);
        cost(check, "abcdefghijkl", "abcdefghijkl", 0);
        cost(check, "abcdefghijkl", "aabbccddeeffgghhiijjkkll", 24);
        cost(check, "abcdefghijkl", "z".repeat(24), 9, 9, 9, 216);
        cost(check, "a*b*", "aabbb", 0);
        cost(check, "(a|b)*c", "ababc", 0);
    }

    private static void emptyPiecesInRows(Check check) {
        cost(check, "ab", "", 6);
        cost(check, "ab", "a", 3);
        cost(check, "ab", "b", 3);
        cost(check, "abc", "ac", 3);
        cost(check, "abc", "a", 6);
        cost(check, "abc", "b", 6);
        cost(check, "abc", "c", 6);
        cost(check, "abc", "", 9);
        cost(check, "abcdefghijkl", "", 36);
        cost(check, "abcdefghijkl", "l", 33);
        cost(check, "a?b?c?", "", 0);
        cost(check, "a?b?c?", "b", 0);
    }

    private static void infiniteSums(Check check) {
        cost(check, "a<0b", "ab", 0);
        cost(check, "a<0b", "a", 3);
        cost(check, "a<0b", "b", -1);
        cost(check, "a<0b", "", -1);
        cost(check, "ab<0", "ab", 0);
        cost(check, "ab<0", "b", 3);
        cost(check, "ab<0", "a", -1);
        cost(check, "a<0b<0", "ab", 0);
        cost(check, "a<0b<0", "ba", -1);
        cost(check, "a<0b<0", "", -1);
        cost(check, "(a<0)(b|c)", "c", -1);
        // Sums of many INFINITE ones stay INFINITE.
        String many = "a<0a<0a<0a<0a<0a<0a<0a<0";
        cost(check, many, "b".repeat(24), -1);
        cost(check, many, "", -1);
        cost(check, many, "aaaaaaaa", 0);
        cost(check, many, "aaaaaaa", -1);
        cost(check, many, "aaaaaaaaa", -1);
        cost(check, "a<0" + "+".repeat(22), "b".repeat(24), -1);
        cost(check, "a<0" + "+".repeat(22), "a".repeat(24), 0);
        cost(check, "((a<0a<0)+(a<0a<0)+)+(a<0a<0)+", "b".repeat(24), -1);
        cost(check, "((a<0a<0)+(a<0a<0)+)+(a<0a<0)+", "a".repeat(24), 0);
        cost(check, "((a<0a<0)+(a<0a<0)+)+(a<0a<0)+", "a".repeat(23), -1);
    }

    private static void choices(Check check) {
        cost(check, "a|b", "a", 0);
        cost(check, "a|b", "b", 0);
        cost(check, "a|b", "c", 4);
        cost(check, "a|bc", "", 3);
        cost(check, "bc|a", "", 3);
        cost(check, "a|bc", "bc", 0);
        cost(check, "bc|a", "bc", 0);
        cost(check, "ab|cd|ef", "ab", 0);
        cost(check, "ab|cd|ef", "cd", 0);
        cost(check, "ab|cd|ef", "ef", 0);
        cost(check, "a(b|c)d", "acd", 0);
        cost(check, "ab|cd", "ad", 4);
        cost(check, "a<0|b", "c", 4);
        cost(check, "b|a<0", "c", 4);
        cost(check, "a<0|b<0", "c", -1);
        cost(check, "a<0|b<0", "b", 0);
    }

    private static void maybe(Check check) {
        cost(check, "a?", "", 0);
        cost(check, "a?", "a", 0);
        cost(check, "a?", "b", 2);
        cost(check, "a?", "bb", 4);
        cost(check, "a?", "ab", 2);
        // n * ADDED is less than, the same as and more than WRONG.
        cost(check, "a?", "b", 3, 9, 4, 3);
        cost(check, "a?", "b", 4, 9, 4, 4);
        cost(check, "a?", "b", 5, 9, 4, 4);
        cost(check, "a?", "b".repeat(24), 9, 9, 9, 216);
        cost(check, "(a<0)?", "b", 2);
        cost(check, "(a<0)?", "", 0);
        cost(check, "(a<0)?", "bb", 4);
        cost(check, "(a<0)?b", "b", 0);
        cost(check, "a??", "bb", 4);
    }

    private static void stars(Check check) {
        cost(check, "a*", "", 0);
        cost(check, "a*", "a", 0);
        cost(check, "a*", "aa", 0);
        cost(check, "a*", "a".repeat(24), 0);
        cost(check, "a*", "b", 2);
        cost(check, "a*", "bb", 4);
        cost(check, "a*", "aba", 2);
        cost(check, "a*", "b", 9, 9, 3, 3);
        cost(check, "a*", "bb", 9, 9, 3, 6);
        cost(check, "a*", "b".repeat(24), 9, 9, 3, 72);
        cost(check, "a*", "b".repeat(24), 3, 9, 9, 72);
        cost(check, "(ab)*", "", 0);
        cost(check, "(ab)*", "ab", 0);
        cost(check, "(ab)*", "abab", 0);
        cost(check, "(ab)*", "ababa", 2);
        cost(check, "(ab)*", "ab".repeat(12), 0);
        cost(check, "(a<0)*", "", 0);
        cost(check, "(a<0)*", "b", 2);
        cost(check, "(a?b)*", "abbab", 0);
        cost(check, "(a*)*", "aabaa", 2);
    }

    private static void starsOfParts(Check check) {
        // Not [a] at 0 and [b] at ADDED: both are left out, or both are made up by x.
        cost(check, "(a<0)*", "ab", 4);
        cost(check, "(a<0)*", "aa", 0);
        cost(check, "(a<0)*", "a".repeat(23) + "b", 48);
        cost(check, "(a<0)*", "a".repeat(24), 0);
        cost(check, "((ab)<0)*", "abxab", 10);
        cost(check, "((ab)<2)*", "abxab", 2);
        cost(check, "((ab)<1)*", "abxab", 10);
    }

    private static void pluses(Check check) {
        cost(check, "a+", "", 3);
        cost(check, "a*", "", 0);
        cost(check, "a+", "a", 0);
        cost(check, "a+", "a".repeat(24), 0);
        cost(check, "a+", "b", 4);
        cost(check, "a+", "bab", 4);
        cost(check, "a+", "b", 0, 9, 9, 9);
        cost(check, "a*", "b", 0, 9, 9, 0);
        cost(check, "a+", "b".repeat(24), 9, 9, 3, 72);
        cost(check, "(ab)+", "", 6);
        cost(check, "(ab)+", "abaxb", 2);
        cost(check, "(a?)+", "", 0);
        cost(check, "(a?)+", "bb", 4);
        cost(check, "a+?", "", 0);
        cost(check, "a+*", "", 0);
        cost(check, "a*+", "", 0);
        cost(check, "(a*b)+", "aabab", 0);
        cost(check, "(a<0)+", "ab", -1);
        cost(check, "(a<0)+", "", -1);
        cost(check, "(a<0)+", "aaa", 0);
        cost(check, "(ab<0)+", "abab", 0);
        cost(check, "((ab)<0)+", "abxab", -1);
        cost(check, "((ab)<2)+", "abxab", 2);
        cost(check, "((ab)<1)+", "abxab", -1);
    }

    private static void limits(Check check) {
        cost(check, "a<0", "a", 0);
        cost(check, "a<4", "b", 4);
        cost(check, "a<5", "b", 4);
        cost(check, "a<04", "b", 4);
        cost(check, "a<99", "b", 4);
        cost(check, "a<3", "", 3);
        cost(check, "(abcdef)<18", "", 18);
        cost(check, "(abcdef)<19", "", 18);
        cost(check, "a<9<4", "b", 4);
        cost(check, "a<4<9", "b", 4);
        // Eleven letters that are missing: 99; [n letters] that are to be added to a?: 9 * n.
        cost(check, "(abcdefghijk)<99", "", 9, 9, 9, 99);
        cost(check, "a?<99", "b".repeat(11), 9, 9, 9, 99);
        cost(check, "a?<90", "b".repeat(10), 9, 9, 9, 90);
    }

    private static void beyondLimits(Check check) {
        cost(check, "a<0", "b", -1);
        cost(check, "a<0", "b", 1, 1, 1, -1);
        cost(check, "a<3", "b", -1);
        cost(check, "a<03", "b", -1);
        cost(check, "a<2", "", -1);
        cost(check, "(abcdef)<17", "", -1);
        cost(check, "a<9<3", "b", -1);
        cost(check, "a<3<9", "b", -1);
        cost(check, "(abcdefghijk)<98", "", 9, 9, 9, -1);
        cost(check, "(abcdefghijk)<9", "", 9, 9, 9, -1);
        cost(check, "(abcdefghijkl)<99", "", 9, 9, 9, -1);
        cost(check, "a?<98", "b".repeat(11), 9, 9, 9, -1);
        cost(check, "a?<99", "b".repeat(12), 9, 9, 9, -1);
        cost(check, "a?<89", "b".repeat(10), 9, 9, 9, -1);
        cost(check, "a?<99", "b".repeat(24), 9, 9, 9, -1);
        // A limit of what is INFINITE.
        cost(check, "(a<0)<99", "b", -1);
    }

    private static void limitsOfParts(Check check) {
        cost(check, "a<3|b", "c", 4);
        cost(check, "aa<0", "b", -1);
        cost(check, "aa<0", "ba", 4);
        cost(check, "(ab)<0c", "abc", 0);
        cost(check, "(ab)<0c", "abd", 4);
        cost(check, "(ab)<0c", "axc", -1);
        cost(check, "(ab)<4c", "axc", 4);
        // Within a limit of 3 the first part can only be a, and x is to be added to c.
        cost(check, "(ab)<3c", "axc", 5);
        cost(check, "(ab)<2c", "axc", -1);
        cost(check, "(ab)<2c", "xabc", 2);
        cost(check, "a<0b", "axb", 2);
        cost(check, "a<0b<0", "axb", -1);
        cost(check, "a<0.b<0", "axb", 0);
        cost(check, "(a|b<0)c", "xc", 4);
        cost(check, "a<0?", "b", 2);
    }
}
