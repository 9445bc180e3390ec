/** How far a word is from the text. */
public final class TermsDistanceTest {
    private static final String LETTERS = "abcdefghijklmnopqrstuvwx";

    public static void main(String[] args) {
        Sentences told = new Sentences("terms of distances");
        told.test("0 when p and q are 0: nothing is left of either", TermsDistanceTest::same);
        told.test("d(p, q - 1) + 1: letters to be put in", TermsDistanceTest::putIn);
        told.test("d(p - 1, q) + 1: letters to be taken out", TermsDistanceTest::takenOut);
        told.test("d(p - 1, q - 1), + 1 if the last letters of both differ", TermsDistanceTest::changed);
        told.test("with exchange d(p - 2, q - 2) + 1", TermsDistanceTest::exchanged);
        told.test("as far as these are there: words and texts of 0 .. 2 letters", TermsDistanceTest::asFarAsThere);
        told.test("no letter is exchanged or changed twice", TermsDistanceTest::onceOnly);
        told.test("the least number", TermsDistanceTest::least);
        told.test("words of 12 and texts of 24 letters", TermsDistanceTest::longest);
        told.end();
    }

    private static void distance(Check check, String word, String text, int plain, int exchanged) {
        FuzzyFinder x = Check.dictionary(word);
        Check.rewrite(x, text);
        check.due(word + " from " + text, x.distance(0, false), plain);
        check.due(word + " from " + text + " with exchange", x.distance(0, true), exchanged);
    }

    private static void same(Check check) {
        for (int length = 1; length <= 12; length++) {
            distance(check, LETTERS.substring(0, length), LETTERS.substring(0, length), 0, 0);
        }
        distance(check, "aa", "aa", 0, 0);
        distance(check, "aaaaaaaaaaaa", "aaaaaaaaaaaa", 0, 0);
    }

    private static void putIn(Check check) {
        distance(check, "a", "ab", 1, 1);
        distance(check, "a", "ba", 1, 1);
        distance(check, "abc", "xabc", 1, 1);
        distance(check, "abc", "axbc", 1, 1);
        distance(check, "abc", "abcx", 1, 1);
        distance(check, "a", "a".repeat(24), 23, 23);
        distance(check, "abc", "xaxbxcx", 4, 4);
    }

    private static void takenOut(Check check) {
        for (int length = 1; length <= 12; length++) {
            distance(check, LETTERS.substring(0, length), "", length, length);
        }
        distance(check, "abc", "bc", 1, 1);
        distance(check, "abc", "ac", 1, 1);
        distance(check, "abc", "ab", 1, 1);
        distance(check, "abcdefghijkl", "f", 11, 11);
    }

    private static void changed(Check check) {
        distance(check, "a", "b", 1, 1);
        distance(check, "abc", "xbc", 1, 1);
        distance(check, "abc", "axc", 1, 1);
        distance(check, "abc", "abx", 1, 1);
        distance(check, "abc", "xyz", 3, 3);
        distance(check, "a", "z", 1, 1);
    }

    private static void exchanged(Check check) {
        distance(check, "ab", "ba", 2, 1);
        distance(check, "abc", "bac", 2, 1);
        distance(check, "abc", "acb", 2, 1);
        distance(check, "abcd", "acbd", 2, 1);
        distance(check, "abcd", "badc", 3, 2);
        distance(check, "abcdefghijkl", "badcfehgjilk", 7, 6);
        distance(check, "abcdefghijkl", "abcdefghijlk", 2, 1);
        distance(check, "ab", "bax", 2, 2);
        distance(check, "ab", "xba", 2, 2);
        // Not neighbours, or not the same letters.
        distance(check, "abc", "cba", 2, 2);
        distance(check, "ab", "bc", 2, 2);
        distance(check, "ab", "ca", 2, 2);
    }

    private static void asFarAsThere(Check check) {
        distance(check, "a", "", 1, 1);
        distance(check, "a", "a", 0, 0);
        distance(check, "a", "b", 1, 1);
        distance(check, "a", "ab", 1, 1);
        distance(check, "a", "ba", 1, 1);
        distance(check, "a", "bb", 2, 2);
        distance(check, "ab", "", 2, 2);
        distance(check, "ab", "a", 1, 1);
        distance(check, "ab", "b", 1, 1);
        distance(check, "ab", "c", 2, 2);
        distance(check, "ab", "ab", 0, 0);
        distance(check, "ab", "ba", 2, 1);
        distance(check, "ab", "cd", 2, 2);
    }

    private static void onceOnly(Check check) {
        // Exchanged to ac, abc would be one step more; but a letter would come between the two.
        distance(check, "ca", "abc", 3, 3);
        distance(check, "abc", "ca", 3, 3);
        distance(check, "abcd", "ba", 3, 3);
        // Moved by two places: it would be exchanged twice.
        distance(check, "abc", "bca", 2, 2);
        distance(check, "abc", "cab", 2, 2);
        distance(check, "ab", "bb", 1, 1);
        distance(check, "abab", "baba", 2, 2);
    }

    private static void least(Check check) {
        distance(check, "kitten", "sitting", 3, 3);
        distance(check, "abcd", "bcde", 2, 2);
        distance(check, "saturday", "sunday", 3, 3);
        distance(check, "aabb", "abab", 2, 1);
    }

    private static void longest(Check check) {
        distance(check, "abcdefghijkl", LETTERS, 12, 12);
        distance(check, "mnopqrstuvwx", LETTERS, 12, 12);
        distance(check, "abcdefghijkl", "z".repeat(24), 24, 24);
        distance(check, "abcdefghijkl", "z".repeat(23), 23, 23);
        distance(check, "a", "z".repeat(24), 24, 24);
        distance(check, "abcdefghijkl", "z".repeat(12), 12, 12);
        distance(check, "abcdefghijkl", "bacdefghijklmnopqrstuvwx", 14, 13);
        distance(check, "abcdefghijkl", "aabbccddeeffgghhiijjkkll", 12, 12);
    }
}
