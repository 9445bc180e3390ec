/** A new object has no pattern, no characters, no text, no words, weights 1 and the bound 0. */
public final class Promise01NewObjectTest {
    public static void main(String[] args) {
        Check check = new Check();
        FuzzyFinder x = new FuzzyFinder();
        check.due("from() before a find", x.from(), -1);
        check.due("to() before a find", x.to(), -1);
        check.due("nodes()", x.nodes(), 0);
        check.due("cost(0, 0)", x.cost(0, 0), -1);
        check.due("find(true)", x.find(true), -1);
        check.due("find(false)", x.find(false), -1);
        check.due("from()", x.from(), -1);
        check.due("to()", x.to(), -1);
        check.due("ends()", x.ends(), 0);
        check.due("words()", x.words(), 0);
        check.due("add() of the empty text", x.add(), -1);
        check.due("near(99, true)", x.near(99, true), 0);
        check.due("rank(0, true)", x.rank(0, true), -1);
        check.due("distance(0, true)", x.distance(0, true), -1);
        check.due("compile() of no characters", x.compile(), 0);

        FuzzyFinder y = new FuzzyFinder();
        check.due("compile() of a", Check.compile(y, "a"), -1);
        check.due("cost(0, 0) is MISSING", y.cost(0, 0), 1);
        check.due("ends() within the bound 0", y.ends(), 0);
        Check.rewrite(y, "b");
        check.due("cost(0, 1) is WRONG", y.cost(0, 1), 1);
        Check.rewrite(y, "ab");
        check.due("cost(0, 2) is ADDED", y.cost(0, 2), 1);
        check.due("ends() within the bound 0", y.ends(), 2);
        check.end();
    }
}
