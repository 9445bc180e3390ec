/** weights takes three numbers 0 .. 9, in the order added, missing, wrong. */
public final class Promise05WeightsTest {
    private static final Check CHECK = new Check();

    public static void main(String[] args) {
        FuzzyFinder x = Check.finder("a", "bbab");
        CHECK.due("weights(2, 3, 4)", x.weights(2, 3, 4), true);
        weigh(x, 2, 3, 4);
        int[] refused = {-1, 10, 11, Integer.MIN_VALUE, Integer.MAX_VALUE};
        for (int weight : refused) {
            CHECK.due("added " + weight, x.weights(weight, 5, 5), false);
            CHECK.due("missing " + weight, x.weights(5, weight, 5), false);
            CHECK.due("wrong " + weight, x.weights(5, 5, weight), false);
            weigh(x, 2, 3, 4);
        }
        for (int weight = 0; weight <= 9; weight++) {
            CHECK.due("weights of " + weight, x.weights(weight, 9 - weight, weight), true);
            weigh(x, weight, 9 - weight, weight);
        }
        CHECK.end();
    }

    private static void weigh(FuzzyFinder x, int added, int missing, int wrong) {
        CHECK.due("cost(0, 0)", x.cost(0, 0), missing);
        CHECK.due("cost(0, 1)", x.cost(0, 1), Math.min(missing + added, wrong));
        CHECK.due("cost(2, 4)", x.cost(2, 4), added);
        CHECK.due("cost(0, 2)", x.cost(0, 2), Math.min(missing + 2 * added, added + wrong));
    }
}
