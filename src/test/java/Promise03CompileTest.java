/** compile answers GOOD, TOO_LONG or the fault, and keeps the old pattern unless it is GOOD. */
public final class Promise03CompileTest {
    private static final Check CHECK = new Check();

    public static void main(String[] args) {
        good("a", "z", ".", "[a]", "[^a]", "[az]", "[^zaz]", "(a)", "((((((a))))))", "ab", "a|b");
        good("a*", "a+", "a?", "a<0", "a<00", "a<99", "a*+?<1*", "a<1b", "a<12b", "a<1<2", "a<1*");
        good("(a|b)c|d", "a(b)(c)", "(a)<3", "[a]<3|.", "((((((a))))))((((((b))))))");

        fault("", 0);
        fault("*", 0);
        fault("|", 0);
        fault(")", 0);
        fault("]", 0);
        fault("A", 0);
        fault("{", 0);
        fault("`", 0);
        fault("1", 0);
        fault("a|", 2);
        fault("a||b", 2);
        fault("|a", 0);
        fault("a|*", 2);
        fault("()", 1);
        fault("(", 1);
        fault("(a", 2);
        fault("(a|", 3);
        fault("(a|)", 3);
        fault("(|a)", 1);
        fault("(*)", 1);
        fault("a)", 1);
        fault("(a))", 3);
        fault("(((((((a)))))))", 6);
        fault("((((((a))))))(((((((", 19);
        fault("((((((", 6);
        fault("[", 1);
        fault("[]", 1);
        fault("[a", 2);
        fault("[^", 2);
        fault("[^]", 2);
        fault("[^^a]", 2);
        fault("[a^]", 2);
        fault("[a.]", 2);
        fault("[A]", 1);
        fault("[a[b]]", 2);
        fault("a]", 1);
        fault("a^", 1);
        fault("a<", 2);
        fault("a<b", 2);
        fault("a<*", 2);
        fault("a<123", 4);
        fault("a<1 2".replace(" ", "!"), 3);
        fault("a<12<", 5);
        fault("a<1*5", 4);
        fault("(a<1)5", 5);
        fault("a<1|5", 4);
        fault("a5", 1);
        fault("a*5", 2);
        fault("aB", 1);
        fault("(a<", 3);
        fault("(a<1", 4);
        fault("a/", 1);
        fault("a:", 1);
        fault("a</", 2);
        fault("a<:", 2);

        tooLong();
        keepsThePattern();
        readsOnlyWhatIsNew();
        CHECK.end();
    }

    private static void good(String... expressions) {
        for (String expression : expressions) {
            CHECK.due("compile() of " + expression, Check.compile(new FuzzyFinder(), expression), -1);
        }
    }

    private static void fault(String characters, int place) {
        CHECK.due("compile() of " + characters, Check.compile(new FuzzyFinder(), characters), place);
    }

    private static void tooLong() {
        CHECK.due("24 nodes", Check.compile(new FuzzyFinder(), "abcdefghijkl?"), -1);
        CHECK.due("25 nodes", Check.compile(new FuzzyFinder(), "abcdefghijklm"), -2);
        CHECK.due("24 nodes", Check.compile(new FuzzyFinder(), "a***********************"), -1);
        CHECK.due("25 nodes", Check.compile(new FuzzyFinder(), "a************************"), -2);
        CHECK.due("25 nodes", Check.compile(new FuzzyFinder(), "a|b|c|d|e|f|g|h|i|j|k|l|m"), -2);
        CHECK.due("79 nodes", Check.compile(new FuzzyFinder(), "a".repeat(40)), -2);
        CHECK.due("a fault behind 24 nodes", Check.compile(new FuzzyFinder(), "a".repeat(39) + "|"), 40);
        CHECK.due("a fault behind 24 nodes", Check.compile(new FuzzyFinder(), "a".repeat(38) + ")a"), 38);
        CHECK.due("a limit behind 24 nodes", Check.compile(new FuzzyFinder(), "a".repeat(37) + "<12"), -2);
        CHECK.due("a bracket behind 24 nodes", Check.compile(new FuzzyFinder(), "a".repeat(30) + "(a|b)*"), -2);
    }

    private static void keepsThePattern() {
        FuzzyFinder x = Check.finder("a|b", "ab");
        x.find(true);
        CHECK.due("a fault", Check.compile(x, "cc("), 3);
        CHECK.due("nodes()", x.nodes(), 3);
        CHECK.due("cost(0, 1)", x.cost(0, 1), 0);
        CHECK.due("too long", Check.compile(x, "c".repeat(20)), -2);
        CHECK.due("nodes()", x.nodes(), 3);
        CHECK.due("cost(1, 2)", x.cost(1, 2), 0);
        CHECK.due("from()", x.from(), 0);
        CHECK.due("a new one", Check.compile(x, "c"), -1);
        CHECK.due("nodes()", x.nodes(), 1);
        CHECK.due("cost(1, 2)", x.cost(1, 2), 1);
        CHECK.due("one as long", Check.compile(x, "b"), -1);
        CHECK.due("cost(1, 2)", x.cost(1, 2), 0);

        FuzzyFinder y = new FuzzyFinder();
        CHECK.due("a fault", Check.compile(y, "c("), 2);
        CHECK.due("too long", Check.compile(y, "c".repeat(20)), -2);
        CHECK.due("nodes()", y.nodes(), 0);
        CHECK.due("cost(0, 0)", y.cost(0, 0), -1);
    }

    private static void readsOnlyWhatIsNew() {
        FuzzyFinder x = new FuzzyFinder();
        CHECK.due("compile() of a|", Check.compile(x, "a|"), 2);
        CHECK.due("compile() of nothing", x.compile(), 0);
        CHECK.due("compile() of b", Check.compile(x, "b"), -1);
        CHECK.due("compile() of nothing", x.compile(), 0);
        CHECK.due("nodes()", x.nodes(), 1);
        CHECK.due("compile() of ((a", Check.compile(x, "((a"), 3);
        CHECK.due("compile() of )", Check.compile(x, ")"), 0);
        CHECK.due("compile() of a<", Check.compile(x, "a<"), 2);
        CHECK.due("compile() of 1", Check.compile(x, "1"), 0);
        CHECK.due("compile() of [^a", Check.compile(x, "[^a"), 3);
        CHECK.due("compile() of [b]", Check.compile(x, "[b]"), -1);
        Check.rewrite(x, "bc");
        CHECK.due("[b] fits b", x.cost(0, 1), 0);
        CHECK.due("[b] does not fit c", x.cost(1, 2), 1);
    }
}
