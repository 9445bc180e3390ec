/** compile answers GOOD, TOO_LONG or the fault, and keeps the old pattern unless it is GOOD. */
public final class Promise03CompileTest {
    public static void main(String[] args) {
        Sentences told = new Sentences("promise 3");
        told.test("Reads the characters that were typed since the last time", Promise03CompileTest::readsWhatIsNew);
        told.test("which are none then", Promise03CompileTest::noneThen);
        told.test("GOOD when they are an EXPRESSION", Promise03CompileTest::good);
        told.test("of at most 24 nodes", Promise03CompileTest::mostNodes);
        told.test("which is the pattern then", Promise03CompileTest::isThePattern);
        told.test("TOO_LONG when it has more", Promise03CompileTest::tooLong);
        told.test("otherwise their FAULT", Promise03CompileTest::fault);
        told.test("after a FAULT the pattern stays what it was", Promise03CompileTest::keptAfterFault);
        told.test("after TOO_LONG the pattern stays what it was", Promise03CompileTest::keptAfterTooLong);
        told.test("if there was one", Promise03CompileTest::noneToKeep);
        told.end();
    }

    private static void compile(Check check, FuzzyFinder x, String characters, int due) {
        check.due("compile() of " + characters, Check.compile(x, characters), due);
    }

    private static void readsWhatIsNew(Check check) {
        FuzzyFinder x = new FuzzyFinder();
        compile(check, x, "((a", 3);
        compile(check, x, ")", 0);
        compile(check, x, "a<", 2);
        compile(check, x, "1", 0);
        compile(check, x, "a<1", -1);
        compile(check, x, "2", 0);
        compile(check, x, "[^a", 3);
        compile(check, x, "[b]", -1);
        Check.rewrite(x, "bc");
        check.due("[b] on b", x.cost(0, 1), 0);
        check.due("[b] on c", x.cost(1, 2), 1);
        compile(check, x, "[^b]", -1);
        compile(check, x, "[b", 2);
        compile(check, x, "[c]", -1);
        check.due("[c] on b", x.cost(0, 1), 1);
        check.due("[c] on c", x.cost(1, 2), 0);
        compile(check, x, "((((((", 6);
        compile(check, x, "((((((a))))))", -1);
        compile(check, x, "a|", 2);
        compile(check, x, "b", -1);
        check.due("nodes()", x.nodes(), 1);
    }

    private static void noneThen(Check check) {
        FuzzyFinder x = new FuzzyFinder();
        compile(check, x, "", 0);
        compile(check, x, "", 0);
        for (String characters : new String[] {"a", "a|", "c".repeat(20), "[" + "c".repeat(39)}) {
            Check.compile(x, characters);
            compile(check, x, "", 0);
            compile(check, x, "b", -1);
            for (int n = 1; n <= 41; n++) {
                check.due("type number " + n + " after " + characters, x.type('('), n <= 40);
            }
            check.due("compile() of 40 (", x.compile(), 6);
        }
    }

    private static void good(Check check) {
        String[] all = {
            "a", ".", "[a]", "[^a]", "(a)", "ab", "a|b", "a*", "a+", "a?", "a<0", "a<99", "(a|b)c|d",
            "a(b)(c)", "(a)<3", "[a]<3|.", "((((((a))))))((((((b))))))", "a*+?<1*", "a<1b", "a<1<2",
        };
        for (String expression : all) {
            compile(check, new FuzzyFinder(), expression, -1);
        }
    }

    /** What has one node more than 24 is too long, whichever kind of node it is. */
    private static void mostNodes(Check check) {
        String[] with23 = {
            "abcdefghijkl", "a|b|c|d|e|f|g|h|i|j|k|l", "a" + "*".repeat(22), "a" + "<1".repeat(12) + "*?" + "+".repeat(8),
            "(a)(b)(c)(d)(e)(f)(g)(h)ijkl", "[ab][cd][ef][gh][ij][kl][mn][op]qrst", ".a.b.c.d.e.|f",
        };
        for (String expression : with23) {
            FuzzyFinder x = new FuzzyFinder();
            compile(check, x, expression, -1);
            check.due("nodes() of " + expression, x.nodes(), 23);
            compile(check, x, expression + "?", -1);
            check.due("nodes() of " + expression + "?", x.nodes(), 24);
            compile(check, x, expression + "??", -2);
            compile(check, x, expression + "z", -2);
            compile(check, x, expression + "|z", -2);
            check.due("nodes()", x.nodes(), 24);
        }
    }

    private static void isThePattern(Check check) {
        FuzzyFinder x = Check.finder("", "ab");
        compile(check, x, "a", -1);
        check.due("cost(0, 1)", x.cost(0, 1), 0);
        check.due("cost(1, 2)", x.cost(1, 2), 1);
        compile(check, x, "b", -1);
        check.due("cost(0, 1)", x.cost(0, 1), 1);
        check.due("cost(1, 2)", x.cost(1, 2), 0);
        compile(check, x, "abcdefghijkl?", -1);
        check.due("nodes()", x.nodes(), 24);
        compile(check, x, "ab", -1);
        check.due("nodes()", x.nodes(), 3);
        check.due("cost(0, 2)", x.cost(0, 2), 0);
        check.due("ends()", x.ends(), 1 << 2);
    }

    private static void tooLong(Check check) {
        compile(check, new FuzzyFinder(), "abcdefghijkl*", -1);
        compile(check, new FuzzyFinder(), "abcdefghijklm", -2);
        compile(check, new FuzzyFinder(), "abcdefghijklm*", -2);
        compile(check, new FuzzyFinder(), "a".repeat(40), -2);
        compile(check, new FuzzyFinder(), "a" + "*".repeat(39), -2);
        compile(check, new FuzzyFinder(), "a|".repeat(19) + "a", -2);
        compile(check, new FuzzyFinder(), "a".repeat(37) + "<12", -2);
        compile(check, new FuzzyFinder(), "a".repeat(30) + "((a|b))*", -2);
        compile(check, new FuzzyFinder(), "a".repeat(34) + "[^ab]+", -2);
        // Brackets are no nodes.
        compile(check, new FuzzyFinder(), "((((((abcdefghijkl))))))?", -1);
        compile(check, new FuzzyFinder(), "((((((abcdefghijkl?))))))?", -2);
    }

    private static void fault(Check check) {
        compile(check, new FuzzyFinder(), "", 0);
        compile(check, new FuzzyFinder(), ")", 0);
        compile(check, new FuzzyFinder(), "a)", 1);
        compile(check, new FuzzyFinder(), "(a", 2);
        compile(check, new FuzzyFinder(), "abcdefghijk*)", 12);
        compile(check, new FuzzyFinder(), "abcdefghijkl*)", 13);
        compile(check, new FuzzyFinder(), "abcdefghijklm*)", 14);
        compile(check, new FuzzyFinder(), "(abcdefghijklm*", 15);
        compile(check, new FuzzyFinder(), "a".repeat(39) + "|", 40);
        compile(check, new FuzzyFinder(), "a".repeat(39) + ")", 39);
        compile(check, new FuzzyFinder(), "a".repeat(38) + ")a", 38);
    }

    private static void keptAfterFault(Check check) {
        FuzzyFinder x = Check.finder("a|b", "ab");
        x.find(true);
        for (String characters : new String[] {"", "cc(", "c)", "[c", "a|b|", "c*<"}) {
            Check.compile(x, characters);
            check.due("nodes() after " + characters, x.nodes(), 3);
            check.due("cost(0, 1) after " + characters, x.cost(0, 1), 0);
            check.due("cost(1, 2) after " + characters, x.cost(1, 2), 0);
            check.due("from() after " + characters, x.from(), 0);
            check.due("to() after " + characters, x.to(), 1);
        }
        Twins.same(check, "compile() of a<", Twins::usedAndCompiled, run -> run.compile("a<"));
        Twins.same(check, "compile() of ccc)c", Twins::usedAndCompiled, run -> run.compile("ccc)c"));
        Twins.same(check, "compile() of nothing", Twins::usedAndCompiled, Run::compile);
    }

    private static void keptAfterTooLong(Check check) {
        FuzzyFinder x = Check.finder("a|b", "ab");
        x.find(true);
        for (String characters : new String[] {"abcdefghijklm", "c".repeat(40), "c" + "*".repeat(24)}) {
            compile(check, x, characters, -2);
            check.due("nodes() after " + characters, x.nodes(), 3);
            check.due("cost(0, 1) after " + characters, x.cost(0, 1), 0);
            check.due("cost(1, 2) after " + characters, x.cost(1, 2), 0);
            check.due("from() after " + characters, x.from(), 0);
            check.due("to() after " + characters, x.to(), 1);
        }
        Twins.same(check, "compile() of 25 nodes", Twins::usedAndCompiled, run -> run.compile("abcdefghijklm"));
        Twins.same(check, "compile() of 39 nodes", Twins::usedAndCompiled, run -> run.compile("c".repeat(20)));
    }

    private static void noneToKeep(Check check) {
        FuzzyFinder x = new FuzzyFinder();
        for (String characters : new String[] {"", "c(", "c".repeat(20), "abcdefghijklm"}) {
            Check.compile(x, characters);
            check.due("nodes() after " + characters, x.nodes(), 0);
            check.due("cost(0, 0) after " + characters, x.cost(0, 0), -1);
            check.due("find(true) after " + characters, x.find(true), -1);
            check.due("ends() after " + characters, x.ends(), 0);
        }
        Twins.same(check, "compile() of c(", Twins::asNew, run -> run.compile("c("));
        Twins.same(check, "compile() of 25 nodes", Twins::asNew, run -> run.compile("abcdefghijklm"));
    }
}
