/** type takes the characters 33 .. 126, and 40 of them. */
public final class Promise02TypeTest {
    public static void main(String[] args) {
        Sentences told = new Sentences("promise 2");
        told.test("Adds a character to the ones that compile reads", Promise02TypeTest::adds);
        told.test("each of 33 .. 126 as it is", Promise02TypeTest::addsEachSign);
        told.test("false when it is not 33 .. 126", Promise02TypeTest::refusesOthers);
        told.test("changing nothing, when it is not 33 .. 126", Promise02TypeTest::othersChangeNothing);
        told.test("false when there are 40", Promise02TypeTest::refusesMore);
        told.test("changing nothing, when there are 40", Promise02TypeTest::moreChangesNothing);
        told.test("40 again after a compile", Promise02TypeTest::takesAgain);
        told.end();
    }

    private static void adds(Check check) {
        FuzzyFinder x = new FuzzyFinder();
        check.due("type(a)", x.type('a'), true);
        check.due("type(|)", x.type('|'), true);
        check.due("type(b)", x.type('b'), true);
        check.due("type(c)", x.type('c'), true);
        check.due("compile() of a|bc", x.compile(), -1);
        check.due("nodes()", x.nodes(), 5);
        Check.rewrite(x, "bca");
        check.due("cost(0, 2)", x.cost(0, 2), 0);
        check.due("cost(2, 3)", x.cost(2, 3), 0);
        check.due("cost(1, 2)", x.cost(1, 2), 1);
    }

    private static void addsEachSign(Check check) {
        for (char c = 33; c <= 126; c++) {
            FuzzyFinder x = new FuzzyFinder();
            check.due("type(" + c + ")", x.type(c), true);
            boolean good = c >= 'a' && c <= 'z' || c == '.';
            int fault = c == '[' || c == '(' ? 1 : 0;
            check.due("compile() of " + c, x.compile(), good ? -1 : fault);
        }
    }

    private static void refusesOthers(Check check) {
        for (int c = 0; c <= 65535; c++) {
            check.due("type(" + c + ")", new FuzzyFinder().type((char) c), c >= 33 && c <= 126);
        }
        FuzzyFinder x = new FuzzyFinder();
        check.due("type(32)", x.type((char) 32), false);
        check.due("type(33)", x.type((char) 33), true);
        check.due("type(126)", x.type((char) 126), true);
        check.due("type(127)", x.type((char) 127), false);
        check.due("type(0)", x.type((char) 0), false);
        check.due("type(256 + 97)", x.type((char) (256 + 97)), false);
        check.due("type(65535)", x.type((char) 65535), false);
    }

    private static void othersChangeNothing(Check check) {
        FuzzyFinder x = new FuzzyFinder();
        x.type((char) 32);
        x.type((char) 127);
        check.due("compile() after refused ones", x.compile(), 0);
        for (int c : new int[] {0, 32, 127, 128, 256 + 97, 65535}) {
            Twins.same(check, "type(" + c + ")", Twins::asNew, run -> run.type(c));
            Twins.same(check, "type(" + c + ")", Twins::used, run -> run.type(c));
            Twins.same(check, "type(" + c + ")", Twins::full, run -> run.type(c));
        }
    }

    private static void refusesMore(Check check) {
        FuzzyFinder x = new FuzzyFinder();
        for (int n = 1; n <= 45; n++) {
            check.due("type number " + n, x.type('a'), n <= 40);
        }
        check.due("compile() of 40 characters", x.compile(), -2);
        FuzzyFinder y = new FuzzyFinder();
        Check.type(y, "[".repeat(39));
        check.due("a space as the fortieth", y.type(' '), false);
        check.due("the fortieth", y.type('a'), true);
        check.due("one more", y.type('a'), false);
        check.due("one more space", y.type(' '), false);
    }

    private static void moreChangesNothing(Check check) {
        FuzzyFinder x = new FuzzyFinder();
        Check.type(x, "[" + "a".repeat(38) + "]");
        x.type('*');
        x.type('|');
        check.due("compile() of a set with 38 letters", x.compile(), -1);
        check.due("nodes()", x.nodes(), 1);
        FuzzyFinder y = new FuzzyFinder();
        Check.type(y, "[" + "a".repeat(39));
        y.type(']');
        check.due("compile() of a set that is not closed", y.compile(), 40);
        for (int c = 33; c <= 126; c += 31) {
            int sign = c;
            Twins.same(check, "type(" + c + ") beyond 40", Twins::full, run -> run.type(sign));
        }
    }

    private static void takesAgain(Check check) {
        FuzzyFinder x = new FuzzyFinder();
        for (int round = 0; round < 3; round++) {
            for (int n = 1; n <= 41; n++) {
                check.due("type number " + n, x.type('b'), n <= 40);
            }
            check.due("compile()", x.compile(), -2);
        }
        check.due("type(b)", x.type('b'), true);
        check.due("compile() of b", x.compile(), -1);
        check.due("nodes()", x.nodes(), 1);
    }
}
