/** weights takes three numbers 0 .. 9, in the order added, missing, wrong. */
public final class Promise05WeightsTest {
    private static final int[] REFUSED = {-1, 10, 11, -2, 256, Integer.MIN_VALUE, Integer.MAX_VALUE};

    public static void main(String[] args) {
        Sentences told = new Sentences("promise 5");
        told.test("The weights: true", Promise05WeightsTest::taken);
        told.test("false when one is not 0 .. 9", Promise05WeightsTest::refused);
        told.test("changing nothing, when one is not 0 .. 9", Promise05WeightsTest::changesNothing);
        told.test("the latest ones hold, for other texts and patterns too", Promise05WeightsTest::last);
        told.end();
    }

    /** What the pattern a costs on bbab and on pieces of it. */
    private static void weigh(Check check, FuzzyFinder x, int added, int missing, int wrong) {
        check.due("cost(0, 0)", x.cost(0, 0), missing);
        check.due("cost(0, 1)", x.cost(0, 1), Math.min(missing + added, wrong));
        check.due("cost(2, 3)", x.cost(2, 3), 0);
        check.due("cost(2, 4)", x.cost(2, 4), added);
        check.due("cost(0, 2)", x.cost(0, 2), Math.min(missing + 2 * added, added + wrong));
    }

    private static void taken(Check check) {
        FuzzyFinder x = Check.finder("a", "bbab");
        for (int added = 0; added <= 9; added += 3) {
            for (int missing = 0; missing <= 9; missing += 3) {
                for (int wrong = 0; wrong <= 9; wrong += 3) {
                    check.due("weights", x.weights(added, missing, wrong), true);
                    weigh(check, x, added, missing, wrong);
                }
            }
        }
        check.due("weights(0, 1, 8)", x.weights(0, 1, 8), true);
        weigh(check, x, 0, 1, 8);
        check.due("weights(8, 0, 1)", x.weights(8, 0, 1), true);
        weigh(check, x, 8, 0, 1);
        check.due("weights(1, 8, 0)", x.weights(1, 8, 0), true);
        weigh(check, x, 1, 8, 0);
    }

    private static void refused(Check check) {
        FuzzyFinder x = Check.finder("a", "bbab");
        x.weights(2, 3, 4);
        for (int weight : REFUSED) {
            check.due("added " + weight, x.weights(weight, 5, 5), false);
            weigh(check, x, 2, 3, 4);
            check.due("missing " + weight, x.weights(5, weight, 5), false);
            weigh(check, x, 2, 3, 4);
            check.due("wrong " + weight, x.weights(5, 5, weight), false);
            weigh(check, x, 2, 3, 4);
            check.due("all " + weight, x.weights(weight, weight, weight), false);
            weigh(check, x, 2, 3, 4);
        }
        int[] edges = {-1, 0, 9, 10};
        for (int added : edges) {
            for (int missing : edges) {
                for (int wrong : edges) {
                    boolean all = added >= 0 && added <= 9 && missing >= 0 && missing <= 9 && wrong >= 0 && wrong <= 9;
                    check.due("weights of edges", x.weights(added, missing, wrong), all);
                }
            }
        }
    }

    private static void changesNothing(Check check) {
        for (int weight : new int[] {-1, 10}) {
            Twins.same(check, "added " + weight, Twins::asNew, run -> run.weights(weight, 5, 5));
            Twins.same(check, "missing " + weight, Twins::asNew, run -> run.weights(5, weight, 5));
            Twins.same(check, "wrong " + weight, Twins::asNew, run -> run.weights(5, 5, weight));
            Twins.same(check, "added " + weight, Twins::used, run -> run.weights(weight, 5, 5));
            Twins.same(check, "missing " + weight, Twins::used, run -> run.weights(5, weight, 5));
            Twins.same(check, "wrong " + weight, Twins::used, run -> run.weights(5, 5, weight));
            Twins.same(check, "wrong " + weight, Twins::full, run -> run.weights(5, 5, weight));
        }
    }

    private static void last(Check check) {
        FuzzyFinder x = Check.finder("c", "bbab");
        x.weights(2, 3, 4);
        check.due("cost(0, 0)", x.cost(0, 0), 3);
        Check.compile(x, "a");
        weigh(check, x, 2, 3, 4);
        Check.rewrite(x, "bb");
        x.write('a');
        x.write('b');
        weigh(check, x, 2, 3, 4);
        x.bound(9);
        weigh(check, x, 2, 3, 4);
    }
}
