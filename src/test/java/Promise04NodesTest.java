/** nodes counts the atoms but brackets, the suffixes, the | and the joints of rows. */
public final class Promise04NodesTest {
    private static final Check CHECK = new Check();

    public static void main(String[] args) {
        CHECK.due("nodes() without a pattern", new FuzzyFinder().nodes(), 0);
        nodes("a", 1);
        nodes(".", 1);
        nodes("[abc]", 1);
        nodes("[^abc]", 1);
        nodes("((a))", 1);
        nodes("ab", 3);
        nodes("(a)(b)", 3);
        nodes("(ab)c", 5);
        nodes("a|b", 3);
        nodes("a|b|c", 5);
        nodes("(a|b)|c", 5);
        nodes("a*", 2);
        nodes("a*+?", 4);
        nodes("a<5", 2);
        nodes("a<55", 2);
        nodes("a<5<55*", 4);
        nodes("ab*c", 6);
        nodes("a<1b", 4);
        nodes("(ab|[cd].)+e?|f", 13);
        nodes("abcdefghijkl<9", 24);
        CHECK.end();
    }

    private static void nodes(String expression, int due) {
        CHECK.due("nodes() of " + expression, Check.finder(expression, "").nodes(), due);
    }
}
