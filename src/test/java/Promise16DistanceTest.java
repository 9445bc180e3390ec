/** distance: letters put in, taken out, changed, and exchanged when exchange is true. */
public final class Promise16DistanceTest {
    private static final Check CHECK = new Check();

    public static void main(String[] args) {
        distance("abc", "abc", 0, 0);
        distance("abc", "", 3, 3);
        distance("abc", "ab", 1, 1);
        distance("abc", "xabc", 1, 1);
        distance("abc", "axc", 1, 1);
        distance("abc", "acb", 2, 1);
        distance("ab", "ba", 2, 1);
        distance("abcd", "badc", 3, 2);
        distance("abab", "baba", 2, 2);
        // An exchanged letter is not changed or exchanged again.
        distance("ca", "abc", 3, 3);
        distance("abcd", "ba", 3, 3);
        distance("aa", "aa", 0, 0);
        distance("kitten", "sitting", 3, 3);
        distance("abcdefghijkl", "abcdefghijklmnopqrstuvwx", 12, 12);
        distance("abcdefghijkl", "zzzzzzzzzzzzzzzzzzzzzzzz", 24, 24);
        distance("a", "aaaaaaaaaaaaaaaaaaaaaaaa", 23, 23);
        distance("abcdefghijkl", "badcfehgjilk", 7, 6);

        FuzzyFinder x = Check.dictionary("a", "bb");
        Check.rewrite(x, "b");
        int[] none = {-1, 2, 20, 21, Integer.MIN_VALUE, Integer.MAX_VALUE};
        for (int w : none) {
            CHECK.due("distance(" + w + ", true)", x.distance(w, true), -1);
            CHECK.due("distance(" + w + ", false)", x.distance(w, false), -1);
        }
        CHECK.due("distance(0, false)", x.distance(0, false), 1);
        CHECK.due("distance(1, false)", x.distance(1, false), 1);
        x.write('b');
        CHECK.due("distance(0, false)", x.distance(0, false), 2);
        CHECK.due("distance(1, false)", x.distance(1, false), 0);
        CHECK.end();
    }

    private static void distance(String word, String text, int plain, int exchanged) {
        FuzzyFinder x = Check.dictionary(word);
        Check.rewrite(x, text);
        CHECK.due(word + " from " + text, x.distance(0, false), plain);
        CHECK.due(word + " from " + text + " with exchange", x.distance(0, true), exchanged);
    }
}
