/** bound takes 0 .. 999, and a match costs at most the bound. */
public final class Promise06BoundTest {
    public static void main(String[] args) {
        Check check = new Check();
        FuzzyFinder x = Check.finder("abc", "");
        check.due("find(true) within 0", x.find(true), -1);
        check.due("bound(2)", x.bound(2), true);
        check.due("find(true) within 2", x.find(true), -1);
        check.due("bound(3)", x.bound(3), true);
        check.due("find(true) within 3", x.find(true), 3);
        int[] refused = {-1, 1000, Integer.MIN_VALUE, Integer.MAX_VALUE};
        for (int most : refused) {
            check.due("bound(" + most + ")", x.bound(most), false);
            check.due("find(true) within 3", x.find(true), 3);
            check.due("weights(1, 2, 1)", x.weights(1, 2, 1), true);
            check.due("find(true) within 3", x.find(true), -1);
            check.due("weights(1, 1, 1)", x.weights(1, 1, 1), true);
        }
        check.due("bound(999)", x.bound(999), true);
        check.due("find(true) within 999", x.find(true), 3);
        check.due("bound(0)", x.bound(0), true);
        check.due("find(true) within 0", x.find(true), -1);
        check.end();
    }
}
