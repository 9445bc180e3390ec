/** words: how many are in the dictionary. */
public final class Promise15WordsTest {
    public static void main(String[] args) {
        Check check = new Check();
        FuzzyFinder x = new FuzzyFinder();
        check.due("words()", x.words(), 0);
        x.add();
        check.due("words() after a refusal", x.words(), 0);
        for (int n = 0; n < 20; n++) {
            Check.rewrite(x, "w" + (char) ('a' + n));
            x.add();
            check.due("words()", x.words(), n + 1);
            x.add();
            check.due("words() after the same word", x.words(), n + 1);
        }
        Check.rewrite(x, "x");
        x.add();
        check.due("words() after a word too many", x.words(), 20);
        Check.compile(x, "a");
        x.erase();
        check.due("words() after erase", x.words(), 20);
        check.end();
    }
}
