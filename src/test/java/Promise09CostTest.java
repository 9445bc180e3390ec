/** cost: of which pieces, and when it answers NONE. What costs how much is in TermsCostTest. */
public final class Promise09CostTest {
    public static void main(String[] args) {
        Sentences told = new Sentences("promise 9");
        told.test("The cost of the pattern on the piece [i, j)", Promise09CostTest::ofPieces);
        told.test("NONE when it is INFINITE", Promise09CostTest::infinite);
        told.test("NONE when there is no pattern", Promise09CostTest::noPattern);
        told.test("NONE when there is no such piece: 0 <= i", Promise09CostTest::below);
        told.test("NONE when there is no such piece: i <= j", Promise09CostTest::reversed);
        told.test("NONE when there is no such piece: j <= length", Promise09CostTest::beyond);
        told.test("a piece of no letters at each place", Promise09CostTest::emptyPieces);
        told.test("of the text, weights and pattern that are there now", Promise09CostTest::asTheyAre);
        told.test("changes nothing", Promise09CostTest::changesNothing);
        told.end();
    }

    private static void ofPieces(Check check) {
        FuzzyFinder x = Check.finder("ab*c", "xabbcab");
        check.due("cost(1, 5)", x.cost(1, 5), 0);
        check.due("cost(0, 5)", x.cost(0, 5), 1);
        check.due("cost(0, 0)", x.cost(0, 0), 2);
        check.due("cost(1, 2)", x.cost(1, 2), 1);
        check.due("cost(1, 4)", x.cost(1, 4), 1);
        check.due("cost(2, 5)", x.cost(2, 5), 1);
        check.due("cost(0, 7)", x.cost(0, 7), 3);
        check.due("cost(7, 7)", x.cost(7, 7), 2);
        for (int i = 0; i <= 24; i++) {
            FuzzyFinder y = Check.finder("a", "b".repeat(Math.max(0, i - 1)) + "a".repeat(i == 0 ? 0 : 1)
                + "b".repeat(24 - i));
            for (int j = 0; j < 24; j++) {
                check.due("a on letter " + j, y.cost(j, j + 1), j == i - 1 ? 0 : 1);
            }
        }
    }

    private static void infinite(Check check) {
        FuzzyFinder x = Check.finder("a<0", "ab");
        check.due("cost(0, 1)", x.cost(0, 1), 0);
        check.due("cost(1, 2)", x.cost(1, 2), -1);
        check.due("cost(0, 0)", x.cost(0, 0), -1);
        check.due("cost(0, 2)", x.cost(0, 2), -1);
        x.weights(0, 0, 1);
        check.due("cost(0, 0)", x.cost(0, 0), 0);
    }

    private static void noPattern(Check check) {
        FuzzyFinder x = Check.finder("", "aaa");
        check.due("cost(0, 0)", x.cost(0, 0), -1);
        check.due("cost(0, 1)", x.cost(0, 1), -1);
        check.due("cost(0, 3)", x.cost(0, 3), -1);
        check.due("cost(0, 4)", x.cost(0, 4), -1);
        Check.compile(x, "a(");
        check.due("cost(0, 1)", x.cost(0, 1), -1);
        Check.compile(x, "a");
        check.due("cost(0, 1)", x.cost(0, 1), 0);
    }

    private static void below(Check check) {
        FuzzyFinder x = Check.finder(".", "aaa");
        check.due("cost(0, 1)", x.cost(0, 1), 0);
        check.due("cost(-1, 0)", x.cost(-1, 0), -1);
        check.due("cost(-1, 1)", x.cost(-1, 1), -1);
        check.due("cost(-1, -1)", x.cost(-1, -1), -1);
        check.due("cost(-2, -1)", x.cost(-2, -1), -1);
        check.due("cost(-1, 3)", x.cost(-1, 3), -1);
        check.due("cost(MIN, 1)", x.cost(Integer.MIN_VALUE, 1), -1);
        check.due("cost(MIN, MIN)", x.cost(Integer.MIN_VALUE, Integer.MIN_VALUE), -1);
        check.due("cost(MIN, MAX)", x.cost(Integer.MIN_VALUE, Integer.MAX_VALUE), -1);
    }

    private static void reversed(Check check) {
        FuzzyFinder x = Check.finder(".", "a".repeat(24));
        for (int i = 0; i <= 24; i++) {
            for (int j = Math.max(0, i - 2); j <= Math.min(24, i + 2); j++) {
                check.due("cost(" + i + ", " + j + ")", x.cost(i, j), j < i ? -1 : Math.abs(j - i - 1));
            }
        }
        check.due("cost(0, -1)", x.cost(0, -1), -1);
        check.due("cost(24, 0)", x.cost(24, 0), -1);
        check.due("cost(25, 24)", x.cost(25, 24), -1);
        check.due("cost(1, MIN)", x.cost(1, Integer.MIN_VALUE), -1);
        check.due("cost(MAX, 0)", x.cost(Integer.MAX_VALUE, 0), -1);
    }

    private static void beyond(Check check) {
        FuzzyFinder x = Check.finder(".", "");
        for (int length = 0; length <= 24; length++) {
            check.due("cost(0, length)", x.cost(0, length), Math.abs(length - 1));
            check.due("cost(0, length + 1)", x.cost(0, length + 1), -1);
            check.due("cost(length, length)", x.cost(length, length), 1);
            check.due("cost(length, length + 1)", x.cost(length, length + 1), -1);
            check.due("cost(length + 1, length + 1)", x.cost(length + 1, length + 1), -1);
            x.write('a');
        }
        check.due("cost(25, 25)", x.cost(25, 25), -1);
        check.due("cost(0, MAX)", x.cost(0, Integer.MAX_VALUE), -1);
        check.due("cost(MAX, MAX)", x.cost(Integer.MAX_VALUE, Integer.MAX_VALUE), -1);
    }

    private static void emptyPieces(Check check) {
        FuzzyFinder x = Check.finder("ab", "a".repeat(24));
        x.weights(2, 3, 4);
        for (int i = -1; i <= 25; i++) {
            check.due("cost(" + i + ", " + i + ")", x.cost(i, i), i >= 0 && i <= 24 ? 6 : -1);
        }
    }

    private static void asTheyAre(Check check) {
        FuzzyFinder x = Check.finder("a", "ab");
        check.due("cost(1, 2)", x.cost(1, 2), 1);
        x.weights(9, 9, 5);
        check.due("cost(1, 2) with other weights", x.cost(1, 2), 5);
        Check.compile(x, "b");
        check.due("cost(1, 2) of another pattern", x.cost(1, 2), 0);
        check.due("cost(0, 1) of another pattern", x.cost(0, 1), 5);
        x.write('b');
        check.due("cost(1, 2) of a longer text", x.cost(1, 2), 0);
        check.due("cost(2, 3) of a longer text", x.cost(2, 3), 0);
        check.due("cost(0, 3) of a longer text", x.cost(0, 3), 18);
        Check.rewrite(x, "bac");
        check.due("cost(0, 1) of another text", x.cost(0, 1), 0);
        check.due("cost(1, 2) of another text", x.cost(1, 2), 5);
    }

    private static void changesNothing(Check check) {
        for (int i = -1; i <= 3; i++) {
            int from = i;
            Twins.same(check, "cost(" + i + ", 2)", Twins::used, run -> run.cost(from, 2));
            Twins.same(check, "cost(" + i + ", 25)", Twins::full, run -> run.cost(from, 25));
            Twins.same(check, "cost(" + i + ", 0)", Twins::asNew, run -> run.cost(from, 0));
        }
        // What is asked of a text before it goes on is not what is due behind.
        FuzzyFinder x = Check.finder("a*b", "");
        for (int n = 0; n < 24; n++) {
            check.due("cost(0, n)", x.cost(0, n), 1);
            x.write('a');
        }
    }
}
