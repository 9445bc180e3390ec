/** type takes the characters 33 .. 126, and 40 of them. */
public final class Promise02TypeTest {
    public static void main(String[] args) {
        Check check = new Check();
        for (int c = 0; c <= 65535; c++) {
            check.due("type(" + c + ")", new FuzzyFinder().type((char) c), c >= 33 && c <= 126);
        }

        FuzzyFinder x = new FuzzyFinder();
        check.due("type(32)", x.type((char) 32), false);
        check.due("type(127)", x.type((char) 127), false);
        check.due("compile() after refused ones", x.compile(), 0);

        for (int n = 0; n < 40; n++) {
            check.due("type number " + n, x.type('a'), true);
        }
        check.due("type number 40", x.type('|'), false);
        check.due("compile() of 40 a", x.compile(), -2);
        check.due("type after compile", x.type('b'), true);
        check.due("compile() of b", x.compile(), -1);
        check.due("nodes()", x.nodes(), 1);

        for (int n = 0; n < 39; n++) {
            x.type('[');
        }
        check.due("the fortieth", x.type('a'), true);
        check.due("one more", x.type('a'), false);
        check.due("one more space", x.type(' '), false);
        check.end();
    }
}
