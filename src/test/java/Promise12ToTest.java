/** to: where the match of the latest find ends, and what makes it forgotten. */
public final class Promise12ToTest {
    public static void main(String[] args) {
        Sentences told = new Sentences("promise 12");
        told.test("Its j", Promise12ToTest::ofTheLatest);
        new MatchSentences("to()", FuzzyFinder::to).tell(told);
        told.end();
    }

    private static void ofTheLatest(Check check) {
        FuzzyFinder x = Check.finder("b", "abc");
        x.find(true);
        check.due("to()", x.to(), 2);
        Check.rewrite(x, "b" + "a".repeat(23));
        x.find(true);
        check.due("to() at the beginning", x.to(), 1);
        Check.rewrite(x, "a".repeat(23) + "b");
        x.find(true);
        check.due("to() at the end", x.to(), 24);
        x.bound(1);
        x.find(false);
        check.due("to() of find(false)", x.to(), 1);
        x.find(true);
        check.due("to() of find(true)", x.to(), 24);
        Check.rewrite(x, "aaa");
        Check.compile(x, "b?");
        x.bound(0);
        x.find(true);
        check.due("to() of a match of no letters", x.to(), 0);
    }
}
