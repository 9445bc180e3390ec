/** nodes counts the atoms but brackets, the suffixes, the | and the joints of rows. */
public final class Promise04NodesTest {
    public static void main(String[] args) {
        Sentences told = new Sentences("promise 4");
        told.test("The number of nodes: all atoms but the bracketed expressions", Promise04NodesTest::atoms);
        told.test("The number of nodes: all suffixes", Promise04NodesTest::suffixes);
        told.test("The number of nodes: all |", Promise04NodesTest::bars);
        told.test("The number of nodes: one between each two neighbouring items", Promise04NodesTest::joints);
        told.test("a pattern has at most 24", Promise04NodesTest::most);
        told.test("0 when there is none", Promise04NodesTest::none);
        told.test("changes nothing", Promise04NodesTest::changesNothing);
        told.end();
    }

    private static void nodes(Check check, String expression, int due) {
        check.due("nodes() of " + expression, Check.finder(expression, "").nodes(), due);
    }

    private static void atoms(Check check) {
        nodes(check, "a", 1);
        nodes(check, ".", 1);
        nodes(check, "[a]", 1);
        nodes(check, "[abc]", 1);
        nodes(check, "[^abc]", 1);
        nodes(check, "[" + "a".repeat(38) + "]", 1);
        nodes(check, "(a)", 1);
        nodes(check, "((((((a))))))", 1);
    }

    private static void suffixes(Check check) {
        nodes(check, "a*", 2);
        nodes(check, "a+", 2);
        nodes(check, "a?", 2);
        nodes(check, "a<5", 2);
        nodes(check, "a<55", 2);
        nodes(check, "a*+?", 4);
        nodes(check, "a<5<55*", 4);
        nodes(check, "(a)*", 2);
        nodes(check, "((a)*)*", 3);
    }

    private static void bars(Check check) {
        nodes(check, "a|b", 3);
        nodes(check, "a|b|c", 5);
        nodes(check, "(a|b)|c", 5);
        nodes(check, "a|(b|c)", 5);
    }

    private static void joints(Check check) {
        nodes(check, "ab", 3);
        nodes(check, "abc", 5);
        nodes(check, "(a)(b)", 3);
        nodes(check, "(ab)c", 5);
        nodes(check, "a(bc)", 5);
        nodes(check, "ab*c", 6);
        nodes(check, "a<1b", 4);
        nodes(check, "(ab|[cd].)+e?|f", 13);
    }

    private static void most(Check check) {
        nodes(check, "abcdefghijkl", 23);
        nodes(check, "abcdefghijkl<9", 24);
        nodes(check, "a" + "*".repeat(23), 24);
        FuzzyFinder x = Check.finder("abcdefghijkl<9", "");
        check.due("25 nodes", Check.compile(x, "abcdefghijklm"), -2);
        check.due("nodes()", x.nodes(), 24);
        check.due("1 node", Check.compile(x, "a"), -1);
        check.due("nodes()", x.nodes(), 1);
    }

    private static void none(Check check) {
        FuzzyFinder x = new FuzzyFinder();
        check.due("nodes() of a new object", x.nodes(), 0);
        Check.type(x, "a");
        check.due("nodes() before compile", x.nodes(), 0);
        Check.compile(x, "|");
        check.due("nodes() after a fault", x.nodes(), 0);
        Check.compile(x, "abcdefghijklm");
        check.due("nodes() after TOO_LONG", x.nodes(), 0);
        Check.compile(x, "a");
        check.due("nodes() of the first pattern", x.nodes(), 1);
    }

    private static void changesNothing(Check check) {
        Twins.same(check, "nodes()", Twins::asNew, Run::nodes);
        Twins.same(check, "nodes()", Twins::used, Run::nodes);
        Twins.same(check, "nodes()", Twins::full, Run::nodes);
    }
}
