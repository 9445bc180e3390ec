/** near: how many words are at most k away. */
public final class Promise17NearTest {
    public static void main(String[] args) {
        Sentences told = new Sentences("promise 17");
        told.test("How many words have a distance of at most k", Promise17NearTest::atMost);
        told.test("with exchange or without", Promise17NearTest::exchange);
        told.test("k below 0, the least and the largest", Promise17NearTest::extremes);
        told.test("of no words and of 20", Promise17NearTest::numbers);
        told.test("from a text of no letters and of 24", Promise17NearTest::texts);
        told.test("changes nothing", Promise17NearTest::changesNothing);
        told.end();
    }

    private static void atMost(Check check) {
        FuzzyFinder x = Check.dictionary("abc", "abd", "axy", "zzzzz");
        Check.rewrite(x, "abc");
        int[] due = {1, 2, 3, 3, 3, 4, 4};
        for (int k = 0; k < due.length; k++) {
            check.due("near(" + k + ", false)", x.near(k, false), due[k]);
            check.due("near(" + k + ", true)", x.near(k, true), due[k]);
        }
    }

    private static void exchange(Check check) {
        FuzzyFinder x = Check.dictionary("abcd", "abdc", "b", "abcdefgh");
        Check.rewrite(x, "abcd");
        int[] plain = {1, 1, 2, 3, 4, 4};
        int[] exchanged = {1, 2, 2, 3, 4, 4};
        for (int k = 0; k < plain.length; k++) {
            check.due("near(" + k + ", false)", x.near(k, false), plain[k]);
            check.due("near(" + k + ", true)", x.near(k, true), exchanged[k]);
        }
    }

    private static void extremes(Check check) {
        FuzzyFinder x = Check.dictionary("abcd", "abdc");
        Check.rewrite(x, "abcd");
        for (boolean exchange : new boolean[] {true, false}) {
            check.due("near(-1)", x.near(-1, exchange), 0);
            check.due("near(-2)", x.near(-2, exchange), 0);
            check.due("near(MIN)", x.near(Integer.MIN_VALUE, exchange), 0);
            check.due("near(MIN + 1)", x.near(Integer.MIN_VALUE + 1, exchange), 0);
            check.due("near(0)", x.near(0, exchange), 1);
            check.due("near(MAX - 1)", x.near(Integer.MAX_VALUE - 1, exchange), 2);
            check.due("near(MAX)", x.near(Integer.MAX_VALUE, exchange), 2);
        }
    }

    private static void numbers(Check check) {
        FuzzyFinder x = new FuzzyFinder();
        String[] words = Check.words(20);
        for (int number = 0; number <= 20; number++) {
            check.due("near(-1)", x.near(-1, true), 0);
            check.due("near(0)", x.near(0, true), number == 0 ? 0 : 1);
            check.due("near(1)", x.near(1, true), number);
            check.due("near(MAX)", x.near(Integer.MAX_VALUE, false), number);
            if (number < 20) {
                Check.rewrite(x, words[number]);
                x.add();
            }
        }
        Check.rewrite(x, "zz");
        check.due("near(1)", x.near(1, false), 0);
        check.due("near(2)", x.near(2, false), 20);
        x.add();
        check.due("near(0) of a word too many", x.near(0, false), 0);
    }

    private static void texts(Check check) {
        FuzzyFinder x = Check.dictionary("a", "bb", "abcdefghijkl");
        int[] due = {0, 1, 2, 2};
        for (int k = 0; k < due.length; k++) {
            check.due("near(" + k + ") of no letters", x.near(k, false), due[k]);
        }
        check.due("near(11) of no letters", x.near(11, false), 2);
        check.due("near(12) of no letters", x.near(12, false), 3);
        Check.rewrite(x, "z".repeat(24));
        check.due("near(23) of 24 letters", x.near(23, true), 0);
        check.due("near(24) of 24 letters", x.near(24, true), 3);
    }

    private static void changesNothing(Check check) {
        for (int k : new int[] {-1, 0, 1, Integer.MAX_VALUE}) {
            Twins.same(check, "near(" + k + ", true)", Twins::asNew, run -> run.near(k, true));
            Twins.same(check, "near(" + k + ", true)", Twins::used, run -> run.near(k, true));
            Twins.same(check, "near(" + k + ", false)", Twins::full, run -> run.near(k, false));
        }
    }
}
