/** erase makes the text empty, and leaves all else as it is. */
public final class Promise08EraseTest {
    public static void main(String[] args) {
        Sentences told = new Sentences("promise 8");
        told.test("The text becomes empty", Promise08EraseTest::becomesEmpty);
        told.test("an empty text too", Promise08EraseTest::staysEmpty);
        told.test("a text of 24 letters too", Promise08EraseTest::fullBecomesEmpty);
        told.test("nothing else changes", Promise08EraseTest::elseIsKept);
        told.end();
    }

    private static void becomesEmpty(Check check) {
        FuzzyFinder x = Check.finder("ab", "xaby");
        x.weights(2, 3, 4);
        x.bound(9);
        check.due("cost(1, 3)", x.cost(1, 3), 0);
        x.erase();
        check.due("cost(1, 3)", x.cost(1, 3), -1);
        check.due("cost(0, 1)", x.cost(0, 1), -1);
        check.due("cost(0, 0)", x.cost(0, 0), 6);
        check.due("ends()", x.ends(), 1);
        check.due("find(true)", x.find(true), 6);
        check.due("its match", Check.match(x), 0);
        check.due("add()", x.add(), -1);
        x.write('b');
        check.due("cost(0, 1) of the new text", x.cost(0, 1), 3);
        check.due("cost(1, 2) of the new text", x.cost(1, 2), -1);
    }

    private static void staysEmpty(Check check) {
        FuzzyFinder x = Check.finder("a", "");
        x.erase();
        x.erase();
        check.due("cost(0, 0)", x.cost(0, 0), 1);
        check.due("cost(0, 1)", x.cost(0, 1), -1);
        Twins.same(check, "erase() of an empty text", Twins::asNew, Run::erase);
    }

    private static void fullBecomesEmpty(Check check) {
        FuzzyFinder x = Check.finder(".", "");
        for (int round = 0; round < 3; round++) {
            for (int n = 1; n <= 25; n++) {
                check.due("letter " + n, x.write('a'), n <= 24);
            }
            check.due("cost(23, 24)", x.cost(23, 24), 0);
            x.erase();
            check.due("cost(0, 1)", x.cost(0, 1), -1);
            check.due("cost(0, 0)", x.cost(0, 0), 1);
        }
    }

    private static void elseIsKept(Check check) {
        FuzzyFinder x = Check.finder("ab", "xab");
        x.weights(2, 3, 4);
        x.bound(5);
        x.add();
        x.type('(');
        x.erase();
        check.due("nodes()", x.nodes(), 3);
        check.due("words()", x.words(), 1);
        check.due("distance(0, false)", x.distance(0, false), 3);
        check.due("cost(0, 0)", x.cost(0, 0), 6);
        check.due("find(true) of 6 within 5", x.find(true), -1);
        check.due("compile() of (", x.compile(), 1);
        for (char c : "xab".toCharArray()) {
            x.write(c);
        }
        check.due("add() of the word again", x.add(), -1);
        check.due("cost(1, 3)", x.cost(1, 3), 0);
        check.due("cost(0, 3)", x.cost(0, 3), 2);
    }
}
