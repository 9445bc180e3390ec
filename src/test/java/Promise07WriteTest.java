/** write takes the letters a .. z, and 24 of them, and puts each at the end. */
public final class Promise07WriteTest {
    public static void main(String[] args) {
        Sentences told = new Sentences("promise 7");
        told.test("Puts a letter at the end of the text", Promise07WriteTest::putsAtTheEnd);
        told.test("each of a .. z as it is", Promise07WriteTest::putsEachLetter);
        told.test("false when it is not a .. z", Promise07WriteTest::refusesOthers);
        told.test("changing nothing, when it is not a .. z", Promise07WriteTest::othersChangeNothing);
        told.test("false when the text has 24", Promise07WriteTest::refusesMore);
        told.test("changing nothing, when the text has 24", Promise07WriteTest::moreChangesNothing);
        told.end();
    }

    private static void putsAtTheEnd(Check check) {
        FuzzyFinder x = Check.finder("bc", "");
        check.due("write(a)", x.write('a'), true);
        check.due("cost(0, 1)", x.cost(0, 1), 2);
        check.due("write(b)", x.write('b'), true);
        check.due("write(c)", x.write('c'), true);
        check.due("cost(1, 3)", x.cost(1, 3), 0);
        check.due("cost(0, 2)", x.cost(0, 2), 2);
        check.due("write(b)", x.write('b'), true);
        check.due("write(c)", x.write('c'), true);
        check.due("cost(3, 5)", x.cost(3, 5), 0);
        check.due("cost(1, 3)", x.cost(1, 3), 0);
        check.due("cost(2, 4)", x.cost(2, 4), 2);
        check.due("ends()", x.ends(), 1 << 3 | 1 << 5);
    }

    private static void putsEachLetter(Check check) {
        for (char letter = 'a'; letter <= 'z'; letter++) {
            FuzzyFinder x = Check.finder(String.valueOf(letter), "");
            check.due("write(" + letter + ")", x.write(letter), true);
            check.due("cost(0, 1)", x.cost(0, 1), 0);
            Check.compile(x, "[^" + letter + "]");
            check.due("cost(0, 1) of the others", x.cost(0, 1), 1);
        }
    }

    private static void refusesOthers(Check check) {
        for (int c = 0; c <= 65535; c++) {
            check.due("write(" + c + ")", new FuzzyFinder().write((char) c), c >= 'a' && c <= 'z');
        }
        FuzzyFinder x = new FuzzyFinder();
        check.due("write(`)", x.write('`'), false);
        check.due("write(a)", x.write('a'), true);
        check.due("write(z)", x.write('z'), true);
        check.due("write({)", x.write('{'), false);
        check.due("write(A)", x.write('A'), false);
        check.due("write(.)", x.write('.'), false);
        check.due("write(256 + 97)", x.write((char) (256 + 97)), false);
    }

    private static void othersChangeNothing(Check check) {
        FuzzyFinder x = Check.finder(".", "");
        for (int n = 0; n < 24; n++) {
            x.write('A');
            x.write('`');
            x.write('{');
            check.due("cost of one letter more", x.cost(n, n + 1), -1);
            check.due("letter " + n, x.write((char) ('a' + n)), true);
            check.due("cost of one letter more", x.cost(n, n + 1), 0);
        }
        for (int c : new int[] {0, '`', '{', 'A', '.', 256 + 97, 65535}) {
            Twins.same(check, "write(" + c + ")", Twins::asNew, run -> run.write(c));
            Twins.same(check, "write(" + c + ")", Twins::used, run -> run.write(c));
            Twins.same(check, "write(" + c + ")", Twins::full, run -> run.write(c));
        }
    }

    private static void refusesMore(Check check) {
        FuzzyFinder x = Check.finder(".", "");
        for (int n = 1; n <= 30; n++) {
            check.due("letter " + n, x.write('a'), n <= 24);
        }
        check.due("cost(23, 24)", x.cost(23, 24), 0);
        check.due("cost(24, 25)", x.cost(24, 25), -1);
        FuzzyFinder y = Check.finder(".", "a".repeat(23));
        check.due("a space as the last", y.write(' '), false);
        check.due("letter 24", y.write('b'), true);
        check.due("letter 25", y.write('c'), false);
        check.due("a space beyond", y.write(' '), false);
    }

    private static void moreChangesNothing(Check check) {
        FuzzyFinder x = Check.finder("b", "a".repeat(24));
        check.due("letter 25", x.write('b'), false);
        check.due("cost(23, 24)", x.cost(23, 24), 1);
        check.due("ends()", x.ends(), 0);
        x.erase();
        check.due("cost(0, 0)", x.cost(0, 0), 1);
        check.due("cost(0, 1)", x.cost(0, 1), -1);
        for (int c : new int[] {'a', 'x', 'z'}) {
            Twins.same(check, "write(" + c + ") beyond 24", Twins::full, run -> run.write(c));
        }
    }
}
