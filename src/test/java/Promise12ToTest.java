/** to: what the latest find found, and what makes it forgotten. */
public final class Promise12ToTest {
    public static void main(String[] args) {
        Check check = new Check();
        check.due("to() of a new object", new FuzzyFinder().to(), -1);
        FuzzyFinder x = Check.finder("b", "abc");
        check.due("before a find", x.to(), -1);
        x.find(true);
        check.due("after a find", x.to(), 2);
        Promise11FromTest.keeping(check, x);
        check.due("still", x.to(), 2);

        x.write('d');
        check.due("after write", x.to(), -1);
        x.find(true);
        x.weights(1, 1, 1);
        check.due("after weights", x.to(), -1);
        x.find(true);
        x.bound(0);
        check.due("after bound", x.to(), -1);
        x.find(true);
        Check.compile(x, "b");
        check.due("after compile", x.to(), -1);
        x.find(false);
        check.due("after a find", x.to(), 2);
        x.erase();
        check.due("after erase", x.to(), -1);
        x.find(true);
        check.due("after a find in vain", x.to(), -1);
        x.bound(1);
        x.find(true);
        check.due("the empty piece", x.to(), 0);
        x.erase();
        check.due("after erase of the empty text", x.to(), -1);
        check.end();
    }
}
