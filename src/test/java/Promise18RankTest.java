/** rank: the words in the order of their distances, equal ones letter by letter. */
public final class Promise18RankTest {
    private static final Check CHECK = new Check();

    public static void main(String[] args) {
        FuzzyFinder x = Check.dictionary("zz", "abdc", "az", "aza", "a", "abcd");
        Check.rewrite(x, "abcd");
        // Plain distances: 4, 2, 3, 3, 3, 0; with exchange abdc is 1 away.
        order(x, false, 5, 1, 4, 2, 3, 0);
        order(x, true, 5, 1, 4, 2, 3, 0);

        FuzzyFinder y = Check.dictionary("ca", "bd", "ab", "ac");
        Check.rewrite(y, "ac");
        // Plain distances: 2, 2, 1, 0; with exchange ca is 1 away, but behind ab.
        order(y, false, 3, 2, 1, 0);
        order(y, true, 3, 2, 0, 1);

        FuzzyFinder z = Check.dictionary("bab", "ba", "b", "bb", "a");
        z.erase();
        order(z, false, 4, 2, 1, 3, 0);

        order(new FuzzyFinder(), true);
        fullDictionary();
        CHECK.end();
    }

    private static void fullDictionary() {
        String[] words = new String[20];
        int[] backwards = new int[20];
        for (int n = 0; n < 20; n++) {
            words[n] = "w" + (char) ('t' - n);
            backwards[n] = 19 - n;
        }
        FuzzyFinder full = Check.dictionary(words);
        order(full, true, backwards);
        CHECK.due("near(2, false)", full.near(2, false), 20);
        CHECK.due("near(1, false)", full.near(1, false), 0);
    }

    private static void order(FuzzyFinder x, boolean exchange, int... words) {
        for (int r = 0; r < words.length; r++) {
            CHECK.due("rank(" + r + ", " + exchange + ")", x.rank(r, exchange), words[r]);
        }
        int[] none = {-1, words.length, 20, 21, Integer.MIN_VALUE, Integer.MAX_VALUE};
        for (int r : none) {
            CHECK.due("rank(" + r + ", " + exchange + ")", x.rank(r, exchange), -1);
        }
    }
}
