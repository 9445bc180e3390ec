/** find: the least cost or the least i first, then the least i, then the greatest j. */
public final class Promise10FindTest {
    public static void main(String[] args) {
        Sentences told = new Sentences("promise 10");
        told.test("when best is true, one of those with the least cost", Promise10FindTest::leastCost);
        told.test("otherwise one of those with the least i", Promise10FindTest::leastPlace);
        told.test("and of these with the least cost", Promise10FindTest::leastCostOfThese);
        told.test("of several the one with the least i", Promise10FindTest::firstOfSeveral);
        told.test("and of these the one with the greatest j", Promise10FindTest::longestOfSeveral);
        told.test("Answers its cost", Promise10FindTest::answersCost);
        told.test("NONE when there is no match", Promise10FindTest::noMatch);
        told.test("NONE when there is no pattern", Promise10FindTest::noPattern);
        told.test("matches at both ends of the text", Promise10FindTest::ends);
        told.test("a match of no letters", Promise10FindTest::empty);
        told.test("changes nothing but the match", Promise10FindTest::changesNothing);
        told.end();
    }

    private static void find(Check check, FuzzyFinder x, boolean best, int cost, int match) {
        check.due("find(" + best + ")", x.find(best), cost);
        check.due("the match of find(" + best + ")", Check.match(x), match);
    }

    private static FuzzyFinder finder(String expression, String text, int bound) {
        FuzzyFinder x = Check.finder(expression, text);
        x.bound(bound);
        return x;
    }

    private static void leastCost(Check check) {
        find(check, finder("ab*c", "xabbcab", 0), true, 0, 105);
        find(check, finder("ab*c", "xabbcab", 1), true, 0, 105);
        find(check, finder("ab*c", "xabbcab", 999), true, 0, 105);
        find(check, finder("abc", "abxabyabc", 2), true, 0, 609);
        find(check, finder("abc", "axxabyxxc", 2), true, 1, 306);
    }

    private static void leastPlace(Check check) {
        find(check, finder("ab*c", "xabbcab", 0), false, 0, 105);
        find(check, finder("ab*c", "xabbcab", 1), false, 1, 5);
        find(check, finder("abc", "xxabxabc", 0), false, 0, 508);
        find(check, finder("abc", "xxabxabc", 1), false, 1, 205);
        find(check, finder("abc", "xxabxabc", 2), false, 2, 105);
        find(check, finder("abc", "xxabxabc", 3), false, 3, 5);
    }

    private static void leastCostOfThese(Check check) {
        // From place 0 the costs of abc are: 2 on a, 1 on ab, 0 on abc, 1 on abcd.
        find(check, finder("abc", "abcd", 2), false, 0, 3);
        find(check, finder("abc", "abcd", 999), false, 0, 3);
        // From place 0: 1 on ab and on abx, but 2 on a and on abxc.
        find(check, finder("abd", "abxc", 2), false, 1, 3);
    }

    private static void firstOfSeveral(Check check) {
        find(check, finder("a", "xaxa", 0), true, 0, 102);
        find(check, finder("a", "xaxa", 0), false, 0, 102);
        find(check, finder("a", "xaxa", 1), true, 0, 102);
        find(check, finder("ab", "xbxaxb", 1), true, 1, 2);
        find(check, finder("a", "xyz", 1), true, 1, 1);
    }

    private static void longestOfSeveral(Check check) {
        find(check, finder("a*", "aab", 0), true, 0, 2);
        find(check, finder("a*", "aab", 0), false, 0, 2);
        // On [0, 0), [0, 1) and [0, 2) the cost is 1.
        find(check, finder("a", "xaxa", 1), false, 1, 2);
        FuzzyFinder free = finder("a", "xax", 0);
        free.weights(0, 1, 1);
        find(check, free, true, 0, 3);
        find(check, free, false, 0, 3);
        free.weights(0, 0, 0);
        find(check, free, true, 0, 3);
        Check.rewrite(free, "x".repeat(24));
        find(check, free, true, 0, 24);
        find(check, free, false, 0, 24);
    }

    private static void answersCost(Check check) {
        FuzzyFinder x = Check.finder("abc", "abd");
        x.weights(7, 8, 9);
        for (boolean best : new boolean[] {true, false}) {
            x.bound(7);
            find(check, x, best, -1, -1);
            x.bound(8);
            find(check, x, best, 8, 2);
            x.bound(9);
            find(check, x, best, 8, 2);
        }
        FuzzyFinder dear = finder("abcdefghijkl", "", 999);
        dear.weights(9, 9, 9);
        find(check, dear, true, 108, 0);
    }

    private static void noMatch(Check check) {
        for (boolean best : new boolean[] {true, false}) {
            find(check, finder("a", "xyz", 0), best, -1, -1);
            find(check, finder("a", "xyz", 1), best, 1, 1);
            find(check, finder("a", "", 0), best, -1, -1);
            find(check, finder("a<0", "xyz", 999), best, -1, -1);
            find(check, finder("a<0b<0", "ba", 999), best, -1, -1);
            find(check, finder("abc", "xyz", 2), best, -1, -1);
            find(check, finder("abc", "xyz", 3), best, 3, 3);
        }
    }

    private static void noPattern(Check check) {
        for (boolean best : new boolean[] {true, false}) {
            find(check, finder("", "", 999), best, -1, -1);
            find(check, finder("", "abc", 999), best, -1, -1);
            FuzzyFinder x = finder("", "abc", 999);
            Check.compile(x, "a(");
            find(check, x, best, -1, -1);
            Check.compile(x, "abcdefghijklm");
            find(check, x, best, -1, -1);
            Check.compile(x, "b");
            find(check, x, true, 0, 102);
        }
    }

    private static void ends(Check check) {
        for (boolean best : new boolean[] {true, false}) {
            find(check, finder("b", "a".repeat(23) + "b", 0), best, 0, 2324);
            find(check, finder("b", "b" + "a".repeat(23), 0), best, 0, 1);
            find(check, finder("bab", "b" + "a".repeat(22) + "b", 0), best, -1, -1);
            find(check, finder("ba*b", "b" + "a".repeat(22) + "b", 0), best, 0, 24);
            find(check, finder("b", "b", 0), best, 0, 1);
        }
    }

    private static void empty(Check check) {
        for (boolean best : new boolean[] {true, false}) {
            find(check, finder("a?", "", 0), best, 0, 0);
            find(check, finder("a", "", 1), best, 1, 0);
            find(check, finder("a?", "b", 0), best, 0, 0);
            find(check, finder("a?", "b".repeat(24), 0), best, 0, 0);
        }
        // Missing letters cost less than wrong ones.
        FuzzyFinder x = finder("a", "bb", 9);
        x.weights(9, 1, 9);
        find(check, x, true, 1, 0);
        find(check, x, false, 1, 0);
    }

    private static void changesNothing(Check check) {
        Twins.same(check, "find(true) without a pattern", Twins::asNew, run -> run.find(true));
        Twins.same(check, "find(true) once more", Twins::used, run -> run.find(true));
        Twins.same(check, "find(true) once more", Twins::full, run -> run.find(true));
        Twins.same(check, "find(false) and find(true)", Twins::used, run -> {
            run.find(false);
            run.find(true);
        });
    }
}
