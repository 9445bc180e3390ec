/** find: the least cost or the least i first, then the least i, then the greatest j. */
public final class Promise10FindTest {
    private static final Check CHECK = new Check();

    public static void main(String[] args) {
        FuzzyFinder x = Check.finder("ab*c", "xabbcab");
        find(x, true, 0, 105);
        find(x, false, 0, 105);
        x.bound(1);
        find(x, true, 0, 105);
        find(x, false, 1, 5);

        FuzzyFinder several = Check.finder("a", "xaxa");
        find(several, true, 0, 102);
        several.bound(1);
        find(several, true, 0, 102);
        // On [0, 0), [0, 1) and [0, 2) the cost is 1: the longest one is the match.
        find(several, false, 1, 2);
        several.bound(0);
        find(several, false, 0, 102);

        FuzzyFinder longest = Check.finder("a*", "aab");
        find(longest, true, 0, 2);
        find(longest, false, 0, 2);
        longest.weights(0, 1, 1);
        find(longest, true, 0, 3);

        FuzzyFinder none = Check.finder("a", "xyz");
        find(none, true, -1, -1);
        find(none, false, -1, -1);
        find(Check.finder("", "a"), true, -1, -1);
        find(Check.finder("", "a"), false, -1, -1);
        find(Check.finder("a?", ""), true, 0, 0);

        FuzzyFinder infinite = Check.finder("a<0", "xyz");
        infinite.bound(999);
        find(infinite, true, -1, -1);
        find(infinite, false, -1, -1);

        FuzzyFinder end = Check.finder("b", "a".repeat(23) + "b");
        find(end, true, 0, 2324);
        find(end, false, 0, 2324);
        CHECK.end();
    }

    private static void find(FuzzyFinder x, boolean best, int cost, int match) {
        CHECK.due("find(" + best + ")", x.find(best), cost);
        CHECK.due("its match", Check.match(x), match);
    }
}
