/** rank: the words in the order of their distances, equal ones letter by letter. */
public final class Promise18RankTest {
    public static void main(String[] args) {
        Sentences told = new Sentences("promise 18");
        told.test("in the order of their distances from the text", Promise18RankTest::byDistance);
        told.test("with exchange or without", Promise18RankTest::exchange);
        told.test("equal ones letter by letter", Promise18RankTest::byLetters);
        told.test("a beginning before what goes on", Promise18RankTest::beginnings);
        told.test("equal ones not in the order in which they came", Promise18RankTest::notAsTheyCame);
        told.test("number r (from 0); NONE when there is none", Promise18RankTest::numbers);
        told.test("NONE when there is no word", Promise18RankTest::noWords);
        told.test("of 20 words", Promise18RankTest::fullDictionary);
        told.test("changes nothing", Promise18RankTest::changesNothing);
        told.end();
    }

    /** Asks for all ranks, and for some on both sides of them. */
    private static void order(Check check, FuzzyFinder x, boolean exchange, int... words) {
        for (int r = 0; r < words.length; r++) {
            check.due("rank(" + r + ", " + exchange + ")", x.rank(r, exchange), words[r]);
        }
        int[] none = {-1, words.length, words.length + 1, 20, 21, Integer.MIN_VALUE, Integer.MAX_VALUE};
        for (int r : none) {
            check.due("rank(" + r + ", " + exchange + ")", x.rank(r, exchange), -1);
        }
    }

    private static void byDistance(Check check) {
        FuzzyFinder x = Check.dictionary("abcdef", "abc", "ab", "abcde", "zzz");
        order(check, x, false, 2, 1, 4, 3, 0);
        Check.rewrite(x, "abc");
        order(check, x, false, 1, 2, 3, 0, 4);
        Check.rewrite(x, "abcdef");
        order(check, x, false, 0, 3, 1, 2, 4);
    }

    private static void exchange(Check check) {
        FuzzyFinder x = Check.dictionary("ca", "bd", "ab", "ac");
        Check.rewrite(x, "ac");
        // Plain distances: 2, 2, 1, 0; with exchange ca is 1 away, but behind ab.
        order(check, x, false, 3, 2, 1, 0);
        order(check, x, true, 3, 2, 0, 1);
        order(check, x, false, 3, 2, 1, 0);
    }

    private static void byLetters(Check check) {
        // From no letters all words of one length are equal.
        order(check, Check.dictionary("c", "a", "b"), false, 1, 2, 0);
        order(check, Check.dictionary("ba", "ab", "aa", "bb"), false, 2, 1, 0, 3);
        order(check, Check.dictionary("abcdefghijkm", "abcdefghijkl"), true, 1, 0);
        order(check, Check.dictionary("bcdefghijklm", "acdefghijklz"), true, 1, 0);
        order(check, Check.dictionary("z", "a"), true, 1, 0);
        FuzzyFinder x = Check.dictionary("axb", "xab", "abx");
        Check.rewrite(x, "ab");
        order(check, x, false, 2, 0, 1);
    }

    private static void beginnings(Check check) {
        FuzzyFinder x = Check.dictionary("aaaa", "aa", "aaa", "a");
        Check.rewrite(x, "bbbb");
        // All are 4 away.
        order(check, x, false, 3, 1, 2, 0);
        // b comes behind all that begin with a, though it is shorter.
        FuzzyFinder y = Check.dictionary("b", "ab", "a");
        Check.rewrite(y, "xyz");
        order(check, y, true, 2, 1, 0);
        FuzzyFinder z = Check.dictionary("abcdefghijkl", "abcdefghijk");
        Check.rewrite(z, "z".repeat(24));
        order(check, z, true, 1, 0);
    }

    private static void notAsTheyCame(Check check) {
        FuzzyFinder x = Check.dictionary("zz", "abdc", "az", "aza", "a", "abcd");
        Check.rewrite(x, "abcd");
        // Plain distances: 4, 2, 3, 3, 3, 0; with exchange abdc is 1 away.
        order(check, x, false, 5, 1, 4, 2, 3, 0);
        order(check, x, true, 5, 1, 4, 2, 3, 0);
        order(check, Check.dictionary("b", "a"), false, 1, 0);
        order(check, Check.dictionary("a", "b"), false, 0, 1);
    }

    private static void numbers(Check check) {
        FuzzyFinder x = Check.dictionary("b", "a");
        check.due("rank(-1)", x.rank(-1, true), -1);
        check.due("rank(0)", x.rank(0, true), 1);
        check.due("rank(1)", x.rank(1, true), 0);
        check.due("rank(2)", x.rank(2, true), -1);
        check.due("rank(MIN)", x.rank(Integer.MIN_VALUE, true), -1);
        check.due("rank(MAX)", x.rank(Integer.MAX_VALUE, true), -1);
        order(check, Check.dictionary("q"), true, 0);
        order(check, Check.dictionary("q"), false, 0);
    }

    private static void noWords(Check check) {
        order(check, new FuzzyFinder(), true);
        order(check, new FuzzyFinder(), false);
        order(check, Check.finder("a", "abc"), true);
    }

    private static void fullDictionary(Check check) {
        String[] words = new String[20];
        int[] backwards = new int[20];
        for (int n = 0; n < 20; n++) {
            words[n] = "w" + (char) ('t' - n);
            backwards[n] = 19 - n;
        }
        FuzzyFinder x = Check.dictionary(words);
        order(check, x, true, backwards);
        Check.rewrite(x, "x");
        x.add();
        order(check, x, false, backwards);
        Check.rewrite(x, "wt");
        check.due("rank(0)", x.rank(0, true), 0);
        check.due("rank(1)", x.rank(1, true), 19);
        check.due("rank(19)", x.rank(19, true), 1);
        check.due("rank(20)", x.rank(20, true), -1);
    }

    private static void changesNothing(Check check) {
        for (int r : new int[] {-1, 0, 1, 19, 20}) {
            Twins.same(check, "rank(" + r + ", true)", Twins::asNew, run -> run.rank(r, true));
            Twins.same(check, "rank(" + r + ", true)", Twins::used, run -> run.rank(r, true));
            Twins.same(check, "rank(" + r + ", false)", Twins::full, run -> run.rank(r, false));
        }
    }
}
