/** ends: a bit for each place at which a match ends. */
public final class Promise13EndsTest {
    public static void main(String[] args) {
        Sentences told = new Sentences("promise 13");
        told.test("The places j at which some match ends", Promise13EndsTest::places);
        told.test("bit j being 1 for them: 0 and 24", Promise13EndsTest::bits);
        told.test("matches within the bound", Promise13EndsTest::bounded);
        told.test("no place when there is no match", Promise13EndsTest::noMatch);
        told.test("0 when there is no pattern", Promise13EndsTest::noPattern);
        told.test("changes nothing", Promise13EndsTest::changesNothing);
        told.end();
    }

    private static int ends(String expression, String text, int bound) {
        FuzzyFinder x = Check.finder(expression, text);
        x.bound(bound);
        return x.ends();
    }

    private static void places(Check check) {
        check.due("ends() of ab in abxab", ends("ab", "abxab", 0), 1 << 2 | 1 << 5);
        check.due("ends() of a|b in abxab", ends("a|b", "abxab", 0), 1 << 1 | 1 << 2 | 1 << 4 | 1 << 5);
        check.due("ends() of ab*c in xabbcab", ends("ab*c", "xabbcab", 0), 1 << 5);
        // Some match ends there, though longer and shorter pieces that end there are none.
        check.due("ends() of bcd in abcdbcd", ends("bcd", "abcdbcd", 0), 1 << 4 | 1 << 7);
        FuzzyFinder x = Check.finder("ab", "abxab");
        x.find(true);
        check.due("ends() after a find", x.ends(), 1 << 2 | 1 << 5);
    }

    private static void bits(Check check) {
        check.due("ends() of a? in no letters", ends("a?", "", 0), 1);
        check.due("ends() of a? in b", ends("a?", "b", 0), 3);
        check.due("ends() of a* in 24 letters", ends("a*", "a".repeat(24), 0), (1 << 25) - 1);
        check.due("ends() of a+ in 24 letters", ends("a+", "a".repeat(24), 0), (1 << 25) - 2);
        check.due("ends() at the first letter", ends("b", "b" + "a".repeat(23), 0), 2);
        check.due("ends() at the last letter", ends("b", "a".repeat(23) + "b", 0), 1 << 24);
        check.due("ends() at the last but one", ends("b", "a".repeat(22) + "ba", 0), 1 << 23);
    }

    private static void bounded(Check check) {
        check.due("ends() within 0", ends("ab", "abxab", 0), 1 << 2 | 1 << 5);
        check.due("ends() within 1", ends("ab", "abxab", 1), 1 << 1 | 1 << 2 | 1 << 3 | 1 << 4 | 1 << 5);
        check.due("ends() within 2", ends("ab", "abxab", 2), 63);
        check.due("ends() within 999", ends("ab", "abxab", 999), 63);
        check.due("ends() of no letters within 1", ends("ab", "", 1), 0);
        check.due("ends() of no letters within 2", ends("ab", "", 2), 1);
        FuzzyFinder x = Check.finder("ab", "abxab");
        for (int most : new int[] {2, 0, 1, 0}) {
            x.bound(most);
            check.due("ends() within " + most, x.ends(), most == 0 ? 36 : most == 1 ? 62 : 63);
        }
    }

    private static void noMatch(Check check) {
        check.due("ends() of a in bbb", ends("a", "bbb", 0), 0);
        check.due("ends() of a in no letters", ends("a", "", 0), 0);
        check.due("ends() of a<0 in bbb", ends("a<0", "bbb", 999), 0);
        check.due("ends() of a<0 in 24 letters", ends("a<0", "b".repeat(24), 999), 0);
    }

    private static void noPattern(Check check) {
        check.due("ends() of a new object", new FuzzyFinder().ends(), 0);
        check.due("ends() in no letters", ends("", "", 999), 0);
        check.due("ends() in letters", ends("", "abc", 999), 0);
        FuzzyFinder x = Check.finder("", "abc");
        Check.compile(x, "a|");
        check.due("ends() after a fault", x.ends(), 0);
        Check.compile(x, "abcdefghijklm");
        check.due("ends() after TOO_LONG", x.ends(), 0);
        Check.compile(x, "b");
        check.due("ends() of the first pattern", x.ends(), 4);
    }

    private static void changesNothing(Check check) {
        Twins.same(check, "ends()", Twins::asNew, Run::ends);
        Twins.same(check, "ends()", Twins::used, Run::ends);
        Twins.same(check, "ends()", Twins::full, Run::ends);
    }
}
