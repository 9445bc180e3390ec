/** distance: of which words, and when it answers NONE. How far is in TermsDistanceTest. */
public final class Promise16DistanceTest {
    public static void main(String[] args) {
        Sentences told = new Sentences("promise 16");
        told.test("The DISTANCE of word w from the text", Promise16DistanceTest::ofWords);
        told.test("with exchange or without", Promise16DistanceTest::exchange);
        told.test("NONE when there is no such word: below 0", Promise16DistanceTest::below);
        told.test("NONE when there is no such word: from their number on", Promise16DistanceTest::beyond);
        told.test("NONE when there is no word", Promise16DistanceTest::noWords);
        told.test("of the text that is there now", Promise16DistanceTest::asItIs);
        told.test("changes nothing", Promise16DistanceTest::changesNothing);
        told.end();
    }

    private static void ofWords(Check check) {
        FuzzyFinder x = Check.dictionary("a", "bb", "abc");
        Check.rewrite(x, "b");
        check.due("distance(0)", x.distance(0, false), 1);
        check.due("distance(1)", x.distance(1, false), 1);
        check.due("distance(2)", x.distance(2, false), 2);
        FuzzyFinder full = Check.dictionary(Check.words(20));
        Check.rewrite(full, "wt");
        for (int w = 0; w < 20; w++) {
            check.due("distance(" + w + ")", full.distance(w, true), w == 19 ? 0 : 1);
        }
    }

    private static void exchange(Check check) {
        FuzzyFinder x = Check.dictionary("ba", "ab");
        Check.rewrite(x, "ab");
        check.due("distance(0, false)", x.distance(0, false), 2);
        check.due("distance(0, true)", x.distance(0, true), 1);
        check.due("distance(1, false)", x.distance(1, false), 0);
        check.due("distance(1, true)", x.distance(1, true), 0);
        check.due("distance(0, false)", x.distance(0, false), 2);
    }

    private static void below(Check check) {
        FuzzyFinder x = Check.dictionary("a", "bb");
        for (boolean exchange : new boolean[] {true, false}) {
            check.due("distance(-1)", x.distance(-1, exchange), -1);
            check.due("distance(-2)", x.distance(-2, exchange), -1);
            check.due("distance(MIN)", x.distance(Integer.MIN_VALUE, exchange), -1);
            check.due("distance(0)", x.distance(0, exchange), 1);
        }
    }

    private static void beyond(Check check) {
        FuzzyFinder x = new FuzzyFinder();
        String[] words = Check.words(20);
        for (int number = 1; number <= 20; number++) {
            Check.rewrite(x, words[number - 1]);
            x.add();
            check.due("distance of the last", x.distance(number - 1, true), 0);
            check.due("distance(" + number + ")", x.distance(number, true), -1);
            check.due("distance(" + number + ")", x.distance(number, false), -1);
            check.due("distance(" + (number + 1) + ")", x.distance(number + 1, false), -1);
        }
        check.due("distance(21)", x.distance(21, true), -1);
        check.due("distance(MAX)", x.distance(Integer.MAX_VALUE, true), -1);
        check.due("distance(MAX)", x.distance(Integer.MAX_VALUE, false), -1);
    }

    private static void noWords(Check check) {
        FuzzyFinder x = Check.finder("a", "a");
        check.due("distance(0, true)", x.distance(0, true), -1);
        check.due("distance(0, false)", x.distance(0, false), -1);
        check.due("distance(-1, false)", x.distance(-1, false), -1);
        check.due("distance(1, false)", x.distance(1, false), -1);
    }

    private static void asItIs(Check check) {
        FuzzyFinder x = Check.dictionary("abc");
        int[] due = {3, 2, 1, 0, 1, 2};
        for (int length = 0; length <= 5; length++) {
            check.due("distance from " + length + " letters", x.distance(0, true), due[length]);
            x.write((char) ('a' + length));
        }
        x.erase();
        check.due("distance from no letters", x.distance(0, true), 3);
    }

    private static void changesNothing(Check check) {
        for (int w : new int[] {-1, 0, 1, 19, 20}) {
            Twins.same(check, "distance(" + w + ", true)", Twins::asNew, run -> run.distance(w, true));
            Twins.same(check, "distance(" + w + ", true)", Twins::used, run -> run.distance(w, true));
            Twins.same(check, "distance(" + w + ", false)", Twins::full, run -> run.distance(w, false));
        }
    }
}
