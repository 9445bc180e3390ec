/** words: how many are in the dictionary. */
public final class Promise15WordsTest {
    public static void main(String[] args) {
        Sentences told = new Sentences("promise 15");
        told.test("The number of words: 0 .. 20", Promise15WordsTest::number);
        told.test("refused words are not counted", Promise15WordsTest::refused);
        told.test("other calls do not change it", Promise15WordsTest::otherCalls);
        told.test("changes nothing", Promise15WordsTest::changesNothing);
        told.end();
    }

    private static void number(Check check) {
        FuzzyFinder x = new FuzzyFinder();
        check.due("words()", x.words(), 0);
        for (String word : Check.words(20)) {
            int before = x.words();
            Check.rewrite(x, word);
            check.due("words() before " + word, x.words(), before);
            x.add();
            check.due("words() after " + word, x.words(), before + 1);
        }
        check.due("words()", x.words(), 20);
    }

    private static void refused(Check check) {
        FuzzyFinder x = new FuzzyFinder();
        x.add();
        check.due("words() after no letters", x.words(), 0);
        Check.rewrite(x, "abcdefghijklm");
        x.add();
        check.due("words() after 13 letters", x.words(), 0);
        Check.rewrite(x, "a");
        x.add();
        x.add();
        check.due("words() after the same", x.words(), 1);
        FuzzyFinder full = Check.dictionary(Check.words(20));
        Check.rewrite(full, "x");
        full.add();
        check.due("words() after the twenty-first", full.words(), 20);
    }

    private static void otherCalls(Check check) {
        FuzzyFinder x = Check.dictionary("a", "b");
        Check.compile(x, "a");
        x.weights(2, 2, 2);
        x.bound(3);
        x.find(true);
        x.distance(0, true);
        x.near(9, true);
        x.rank(0, true);
        x.erase();
        check.due("words()", x.words(), 2);
    }

    private static void changesNothing(Check check) {
        Twins.same(check, "words()", Twins::asNew, Run::words);
        Twins.same(check, "words()", Twins::used, Run::words);
        Twins.same(check, "words()", Twins::full, Run::words);
    }
}
