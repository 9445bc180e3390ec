/** add takes a text of 1 .. 12 letters that is new, and 20 of them. */
public final class Promise14AddTest {
    public static void main(String[] args) {
        Sentences told = new Sentences("promise 14");
        told.test("Puts the text into the dictionary as a word", Promise14AddTest::putsTheText);
        told.test("answers its number", Promise14AddTest::answersNumber);
        told.test("NONE, changing nothing, when the text is empty", Promise14AddTest::emptyText);
        told.test("NONE, changing nothing, when it is longer than 12", Promise14AddTest::longText);
        told.test("NONE, changing nothing, when it is there already", Promise14AddTest::thereAlready);
        told.test("all different: in one letter or in length is enough", Promise14AddTest::almostThere);
        told.test("NONE, changing nothing, when 20 are", Promise14AddTest::fullDictionary);
        told.test("the text, the pattern and the match stay", Promise14AddTest::keepsTheRest);
        told.end();
    }

    private static int add(FuzzyFinder x, String text) {
        Check.rewrite(x, text);
        return x.add();
    }

    private static void putsTheText(Check check) {
        FuzzyFinder x = new FuzzyFinder();
        check.due("add() of abc", add(x, "abc"), 0);
        check.due("distance from abc", x.distance(0, false), 0);
        x.write('d');
        check.due("distance from abcd", x.distance(0, false), 1);
        Check.rewrite(x, "xyz");
        check.due("distance from xyz", x.distance(0, false), 3);
        x.erase();
        check.due("distance from no letters", x.distance(0, false), 3);
        check.due("add() of az", add(x, "az"), 1);
        check.due("add() of z", add(x, "z"), 2);
        x.erase();
        check.due("distance(0)", x.distance(0, false), 3);
        check.due("distance(1)", x.distance(1, false), 2);
        check.due("distance(2)", x.distance(2, false), 1);
    }

    private static void answersNumber(Check check) {
        FuzzyFinder x = new FuzzyFinder();
        String[] words = Check.words(20);
        for (int w = 0; w < 20; w++) {
            check.due("add() of " + words[w], add(x, words[w]), w);
            check.due("words()", x.words(), w + 1);
        }
        for (int w = 0; w < 20; w++) {
            Check.rewrite(x, words[w]);
            check.due("distance of word " + w, x.distance(w, true), 0);
        }
    }

    private static void emptyText(Check check) {
        FuzzyFinder x = new FuzzyFinder();
        check.due("add() of no letters", x.add(), -1);
        check.due("words()", x.words(), 0);
        check.due("add() of a", add(x, "a"), 0);
        check.due("add() of no letters", add(x, ""), -1);
        check.due("words()", x.words(), 1);
        Twins.same(check, "add() of no letters", Twins::asNew, Run::add);
        Twins.same(check, "add() of no letters", Promise14AddTest::usedAndErased, Run::add);
    }

    private static void usedAndErased(Run run) {
        Twins.used(run);
        run.erase();
    }

    private static void longText(Check check) {
        String letters = "abcdefghijklmnopqrstuvwx";
        FuzzyFinder x = new FuzzyFinder();
        int added = 0;
        for (int length = 1; length <= 24; length++) {
            check.due("add() of " + length + " letters", add(x, letters.substring(0, length)), length <= 12 ? added : -1);
            added += length <= 12 ? 1 : 0;
            check.due("words()", x.words(), added);
        }
        Check.rewrite(x, letters.substring(0, 12));
        check.due("distance of the word of 12", x.distance(11, false), 0);
        check.due("distance of the word of 11", x.distance(10, false), 1);
        for (int length : new int[] {13, 14, 24}) {
            Twins.same(check, "add() of " + length, run -> run.rewrite(letters.substring(0, length)), Run::add);
            Twins.same(check, "add() of " + length, run -> usedAndRewritten(run, letters.substring(0, length)), Run::add);
        }
    }

    private static void usedAndRewritten(Run run, String text) {
        Twins.used(run);
        run.rewrite(text);
        run.find(true);
    }

    private static void thereAlready(Check check) {
        FuzzyFinder x = Check.dictionary("ab", "b", "abcdefghijkl");
        for (String word : new String[] {"ab", "b", "abcdefghijkl"}) {
            check.due("add() of " + word + " again", add(x, word), -1);
            check.due("words()", x.words(), 3);
        }
        check.due("add() of c", add(x, "c"), 3);
        check.due("add() of c at once again", x.add(), -1);
        check.due("words()", x.words(), 4);
        Twins.same(check, "add() of ab again", run -> usedAndRewritten(run, "ab"), Run::add);
        Twins.same(check, "add() of ba again", run -> usedAndRewritten(run, "ba"), Run::add);
        Twins.same(check, "add() of abc again", run -> usedAndRewritten(run, "abc"), Run::add);
    }

    private static void almostThere(Check check) {
        FuzzyFinder x = Check.dictionary("abc");
        String[] others = {"ab", "abcd", "abd", "bbc", "acc", "bc", "cba", "a", "abcabc"};
        for (int n = 0; n < others.length; n++) {
            check.due("add() of " + others[n], add(x, others[n]), n + 1);
        }
        check.due("add() of abcdefghijkl", add(x, "abcdefghijkl"), 10);
        check.due("add() of abcdefghijkm", add(x, "abcdefghijkm"), 11);
        check.due("add() of abcdefghijk", add(x, "abcdefghijk"), 12);
    }

    private static void fullDictionary(Check check) {
        FuzzyFinder x = Check.dictionary(Check.words(19));
        check.due("words()", x.words(), 19);
        check.due("the twentieth", add(x, "abcdefghijkl"), 19);
        check.due("one more", add(x, "zz"), -1);
        check.due("one more of 12 letters", add(x, "abcdefghijkm"), -1);
        check.due("one that is there", add(x, "wa"), -1);
        check.due("no letters", add(x, ""), -1);
        check.due("words()", x.words(), 20);
        check.due("distance(19) from no letters", x.distance(19, false), 12);
        check.due("distance(20)", x.distance(20, false), -1);
        Twins.same(check, "add() of 24 letters beyond 20", Twins::full, Run::add);
        for (String word : new String[] {"zz", "a", "", "abcdefghijkl"}) {
            Twins.same(check, "add() of " + word + " beyond 20", run -> fullWithText(run, word), Run::add);
        }
    }

    private static void fullWithText(Run run, String text) {
        Twins.full(run);
        run.rewrite(text);
    }

    private static void keepsTheRest(Check check) {
        FuzzyFinder x = Check.finder("b", "abc");
        x.find(true);
        Check.type(x, "a|");
        check.due("add()", x.add(), 0);
        check.due("its match", Check.match(x), 102);
        check.due("cost(1, 2)", x.cost(1, 2), 0);
        check.due("cost(0, 3)", x.cost(0, 3), 2);
        check.due("cost(0, 4)", x.cost(0, 4), -1);
        check.due("nodes()", x.nodes(), 1);
        check.due("compile() of a|", x.compile(), 2);
    }
}
