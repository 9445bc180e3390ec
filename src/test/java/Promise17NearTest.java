/** near: how many words are at most k away. */
public final class Promise17NearTest {
    public static void main(String[] args) {
        Check check = new Check();
        FuzzyFinder x = Check.dictionary("abcd", "abdc", "b", "abcdefgh");
        Check.rewrite(x, "abcd");
        int[] plain = {1, 1, 2, 3, 4};
        int[] exchanged = {1, 2, 2, 3, 4};
        for (int k = 0; k < 5; k++) {
            check.due("near(" + k + ", false)", x.near(k, false), plain[k]);
            check.due("near(" + k + ", true)", x.near(k, true), exchanged[k]);
        }
        check.due("near(-1, true)", x.near(-1, true), 0);
        check.due("near(MIN, false)", x.near(Integer.MIN_VALUE, false), 0);
        check.due("near(MAX, false)", x.near(Integer.MAX_VALUE, false), 4);
        x.erase();
        check.due("near(0, true) of the empty text", x.near(0, true), 0);
        check.due("near(1, true) of the empty text", x.near(1, true), 1);
        check.due("near(7, true) of the empty text", x.near(7, true), 3);
        check.due("near(8, true) of the empty text", x.near(8, true), 4);
        check.due("near(9, true) without words", new FuzzyFinder().near(9, true), 0);
        check.end();
    }
}
