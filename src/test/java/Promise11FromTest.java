/** from: what the latest find found, and what makes it forgotten. */
public final class Promise11FromTest {
    public static void main(String[] args) {
        Check check = new Check();
        check.due("from() of a new object", new FuzzyFinder().from(), -1);
        FuzzyFinder x = Check.finder("b", "abc");
        check.due("before a find", x.from(), -1);
        x.find(true);
        check.due("after a find", x.from(), 1);
        keeping(check, x);
        check.due("still", x.from(), 1);

        x.write('d');
        check.due("after write", x.from(), -1);
        x.find(true);
        x.weights(1, 1, 1);
        check.due("after weights", x.from(), -1);
        x.find(true);
        x.bound(0);
        check.due("after bound", x.from(), -1);
        x.find(true);
        Check.compile(x, "b");
        check.due("after compile", x.from(), -1);
        x.find(false);
        check.due("after a find", x.from(), 1);
        x.erase();
        check.due("after erase", x.from(), -1);
        x.find(true);
        check.due("after a find in vain", x.from(), -1);
        x.bound(1);
        x.find(true);
        check.due("the empty piece", x.from(), 0);
        x.erase();
        check.due("after erase of the empty text", x.from(), -1);
        check.end();
    }

    /** Calls that do not touch the match. */
    static void keeping(Check check, FuzzyFinder x) {
        check.due("write refused", x.write('B'), false);
        check.due("weights refused", x.weights(0, 0, 10), false);
        check.due("bound refused", x.bound(1000), false);
        check.due("compile with a fault", Check.compile(x, "a("), 2);
        check.due("compile of nothing", x.compile(), 0);
        check.due("compile of too many", Check.compile(x, "c".repeat(20)), -2);
        x.add();
        x.cost(0, 0);
        x.ends();
        x.nodes();
        x.words();
        x.distance(0, true);
        x.near(3, true);
        x.rank(0, true);
    }
}
