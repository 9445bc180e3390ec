/** A new object has no pattern, no characters, no text, no words, weights 1 and the bound 0. */
public final class Promise01NewObjectTest {
    public static void main(String[] args) {
        Sentences told = new Sentences("promise 1");
        told.test("No pattern", Promise01NewObjectTest::noPattern);
        told.test("no characters", Promise01NewObjectTest::noCharacters);
        told.test("an empty text", Promise01NewObjectTest::emptyText);
        told.test("an empty dictionary", Promise01NewObjectTest::emptyDictionary);
        told.test("all weights are 1", Promise01NewObjectTest::weightsOne);
        told.test("the bound is 0", Promise01NewObjectTest::boundZero);
        told.test("whatever other objects were used for", Promise01NewObjectTest::besidesOthers);
        told.end();
    }

    private static void noPattern(Check check) {
        FuzzyFinder x = new FuzzyFinder();
        check.due("nodes()", x.nodes(), 0);
        check.due("cost(0, 0)", x.cost(0, 0), -1);
        check.due("ends()", x.ends(), 0);
        check.due("from() before a find", x.from(), -1);
        check.due("to() before a find", x.to(), -1);
        check.due("find(true)", x.find(true), -1);
        check.due("find(false)", x.find(false), -1);
        check.due("from()", x.from(), -1);
        check.due("to()", x.to(), -1);
        x.bound(999);
        x.write('a');
        check.due("cost(0, 1) of a text", x.cost(0, 1), -1);
        check.due("find(true) in a text", x.find(true), -1);
        check.due("ends() in a text", x.ends(), 0);
    }

    private static void noCharacters(Check check) {
        check.due("compile()", new FuzzyFinder().compile(), 0);
        FuzzyFinder x = new FuzzyFinder();
        check.due("compile() of one character", Check.compile(x, "a"), -1);
        check.due("nodes()", x.nodes(), 1);
        FuzzyFinder y = new FuzzyFinder();
        for (int n = 1; n <= 41; n++) {
            check.due("type number " + n, y.type('['), n <= 40);
        }
    }

    private static void emptyText(Check check) {
        FuzzyFinder x = new FuzzyFinder();
        check.due("add()", x.add(), -1);
        check.due("compile() of .", Check.compile(x, "."), -1);
        check.due("cost(0, 0)", x.cost(0, 0), 1);
        check.due("cost(0, 1)", x.cost(0, 1), -1);
        check.due("cost(1, 1)", x.cost(1, 1), -1);
        x.bound(1);
        check.due("ends()", x.ends(), 1);
        for (int n = 1; n <= 25; n++) {
            check.due("letter " + n, x.write('a'), n <= 24);
        }
    }

    private static void emptyDictionary(Check check) {
        FuzzyFinder x = new FuzzyFinder();
        check.due("words()", x.words(), 0);
        for (boolean exchange : new boolean[] {true, false}) {
            check.due("distance(0)", x.distance(0, exchange), -1);
            check.due("near(MAX)", x.near(Integer.MAX_VALUE, exchange), 0);
            check.due("rank(0)", x.rank(0, exchange), -1);
        }
        x.write('a');
        check.due("the first word", x.add(), 0);
    }

    private static void weightsOne(Check check) {
        FuzzyFinder x = Check.finder("a", "bbba");
        check.due("MISSING", x.cost(0, 0), 1);
        check.due("WRONG", x.cost(0, 1), 1);
        check.due("ADDED", x.cost(2, 4), 1);
        check.due("ADDED twice", x.cost(1, 4), 2);
        check.due("ADDED and WRONG", x.cost(0, 2), 2);
    }

    private static void boundZero(Check check) {
        FuzzyFinder x = Check.finder("a", "ba");
        check.due("ends() within 0", x.ends(), 1 << 2);
        check.due("find(true) within 0", x.find(true), 0);
        Check.rewrite(x, "b");
        check.due("ends() within 0, all costs being 1", x.ends(), 0);
        check.due("find(true) within 0, all costs being 1", x.find(true), -1);
        check.due("find(false) within 0, all costs being 1", x.find(false), -1);
    }

    private static void besidesOthers(Check check) {
        Run used = new Run();
        Twins.full(used);
        noPattern(check);
        noCharacters(check);
        emptyText(check);
        emptyDictionary(check);
        weightsOne(check);
        boundZero(check);
        check.due("nodes() of the other", used.nodes(), 24);
        check.due("words() of the other", used.words(), 20);
        check.due("cost(0, 10) of the other", used.cost(0, 10), 9);
    }
}
