/** from: where the match of the latest find begins, and what makes it forgotten. */
public final class Promise11FromTest {
    public static void main(String[] args) {
        Sentences told = new Sentences("promise 11");
        told.test("The i of the match that the latest find found", Promise11FromTest::ofTheLatest);
        new MatchSentences("from()", FuzzyFinder::from).tell(told);
        told.end();
    }

    private static void ofTheLatest(Check check) {
        FuzzyFinder x = Check.finder("b", "abc");
        x.find(true);
        check.due("from()", x.from(), 1);
        Check.rewrite(x, "b" + "a".repeat(23));
        x.find(true);
        check.due("from() at the beginning", x.from(), 0);
        Check.rewrite(x, "a".repeat(23) + "b");
        x.find(true);
        check.due("from() at the end", x.from(), 23);
        x.bound(1);
        x.find(false);
        check.due("from() of find(false)", x.from(), 0);
        x.find(true);
        check.due("from() of find(true)", x.from(), 23);
        Check.compile(x, "b?");
        x.find(true);
        check.due("from() of a match of no letters", x.from(), 0);
    }
}
