/** add takes a text of 1 .. 12 letters that is new, and 20 of them. */
public final class Promise14AddTest {
    public static void main(String[] args) {
        Check check = new Check();
        FuzzyFinder x = new FuzzyFinder();
        check.due("the empty text", x.add(), -1);
        Check.rewrite(x, "abcdefghijklm");
        check.due("13 letters", x.add(), -1);
        Check.rewrite(x, "abcdefghijkl");
        check.due("12 letters", x.add(), 0);
        check.due("the same", x.add(), -1);
        Check.rewrite(x, "abcdefghijk");
        check.due("a beginning", x.add(), 1);
        check.due("the same", x.add(), -1);
        check.due("words()", x.words(), 2);
        Check.rewrite(x, "a");
        check.due("a letter", x.add(), 2);
        x.write('a');
        check.due("the text goes on", x.add(), 3);
        check.due("the word is not the text", x.distance(2, false), 1);
        Check.rewrite(x, "b");
        for (int n = 4; n < 20; n++) {
            Check.rewrite(x, "b" + (char) ('a' + n));
            check.due("word " + n, x.add(), n);
        }
        Check.rewrite(x, "zz");
        check.due("word 20", x.add(), -1);
        check.due("words()", x.words(), 20);
        check.due("distance(20, false)", x.distance(20, false), -1);
        check.due("distance(0, false)", x.distance(0, false), 12);
        Check.rewrite(x, "");
        check.due("the empty text", x.add(), -1);
        check.end();
    }
}
