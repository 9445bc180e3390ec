/** bound takes 0 .. 999, and a match costs at most the bound. */
public final class Promise06BoundTest {
    private static final int[] REFUSED = {-1, 1000, 1001, -2, 65536, Integer.MIN_VALUE, Integer.MAX_VALUE};

    public static void main(String[] args) {
        Sentences told = new Sentences("promise 6");
        told.test("The BOUND: true", Promise06BoundTest::taken);
        told.test("false when it is not 0 .. 999", Promise06BoundTest::refused);
        told.test("changing nothing, when it is not 0 .. 999", Promise06BoundTest::changesNothing);
        told.test("a MATCH is a piece on which the cost is at most BOUND", Promise06BoundTest::atMost);
        told.test("INFINITE is above every BOUND", Promise06BoundTest::infinite);
        told.end();
    }

    private static void taken(Check check) {
        FuzzyFinder x = new FuzzyFinder();
        for (int most = 0; most <= 999; most++) {
            if (most % 400 == 0) {
                x = new FuzzyFinder();
            }
            check.due("bound(" + most + ")", x.bound(most), true);
        }
    }

    private static void refused(Check check) {
        FuzzyFinder x = Check.finder("abc", "");
        x.bound(3);
        for (int most : REFUSED) {
            check.due("bound(" + most + ")", x.bound(most), false);
            check.due("find(true) within 3", x.find(true), 3);
            x.weights(1, 2, 1);
            check.due("find(true) of 6 within 3", x.find(true), -1);
            x.weights(1, 1, 1);
        }
        check.due("bound(999)", x.bound(999), true);
        check.due("bound(0)", x.bound(0), true);
        check.due("find(true) within 0", x.find(true), -1);
    }

    private static void changesNothing(Check check) {
        for (int most : REFUSED) {
            Twins.same(check, "bound(" + most + ")", Twins::asNew, run -> run.bound(most));
            Twins.same(check, "bound(" + most + ")", Twins::used, run -> run.bound(most));
            Twins.same(check, "bound(" + most + ")", Twins::full, run -> run.bound(most));
        }
    }

    private static void bounded(Check check, FuzzyFinder x, int most, int cost) {
        x.bound(most);
        boolean found = cost <= most;
        check.due("find(true) of " + cost + " within " + most, x.find(true), found ? cost : -1);
        check.due("find(false) of " + cost + " within " + most, x.find(false), found ? cost : -1);
        check.due("ends() of " + cost + " within " + most, x.ends(), found ? 1 : 0);
    }

    /** On the empty text the pattern costs nine times the number of its letters. */
    private static void atMost(Check check) {
        FuzzyFinder x = Check.finder("a?", "");
        x.weights(9, 9, 9);
        bounded(check, x, 0, 0);
        bounded(check, x, 1, 0);
        Check.compile(x, "a");
        bounded(check, x, 0, 9);
        bounded(check, x, 8, 9);
        bounded(check, x, 9, 9);
        bounded(check, x, 10, 9);
        bounded(check, x, 999, 9);
        Check.compile(x, "abcdefghijkl");
        bounded(check, x, 107, 108);
        bounded(check, x, 108, 108);
        bounded(check, x, 109, 108);
        bounded(check, x, 999, 108);
        bounded(check, x, 0, 108);
    }

    private static void infinite(Check check) {
        FuzzyFinder x = Check.finder("a<0", "");
        bounded(check, x, 0, Integer.MAX_VALUE);
        bounded(check, x, 998, Integer.MAX_VALUE);
        bounded(check, x, 999, Integer.MAX_VALUE);
        Check.compile(x, "a<0b<0(c<0)+");
        bounded(check, x, 999, Integer.MAX_VALUE);
    }
}
