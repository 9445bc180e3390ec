import java.util.function.Consumer;
import java.util.function.ToIntFunction;

/** The sentences that promise the same of from and to. */
final class MatchSentences {
    private final String name;
    private final ToIntFunction<FuzzyFinder> asked;

    MatchSentences(String name, ToIntFunction<FuzzyFinder> asked) {
        this.name = name;
        this.asked = asked;
    }

    void tell(Sentences told) {
        told.test("NONE when it found none", this::foundNone);
        told.test("NONE when there was no find", this::noFind);
        told.test("NONE since a write that was not refused", check -> forgotten(check, x -> x.write('d')));
        told.test("not since a write that was refused", this::writeRefused);
        told.test("NONE since weights that were not refused", this::weightsTaken);
        told.test("not since weights that were refused", this::weightsRefused);
        told.test("NONE since a bound that was not refused", this::boundTaken);
        told.test("not since a bound that was refused", this::boundRefused);
        told.test("NONE since erase", this::erased);
        told.test("NONE since a compile that answered GOOD", this::compiled);
        told.test("not since a compile that answered a FAULT or TOO_LONG", this::notCompiled);
        told.test("not since any other call", this::otherCalls);
    }

    private void due(Check check, String when, FuzzyFinder x, int due) {
        check.due(name + " " + when, asked.applyAsInt(x), due);
        check.due(name + " " + when + " once more", asked.applyAsInt(x), due);
    }

    /** The match is [1, 2): from answers 1 and to answers 2. */
    private static FuzzyFinder found() {
        FuzzyFinder x = Check.finder("b", "abc");
        if (x.find(true) != 0) {
            throw new IllegalStateException("not found");
        }
        return x;
    }

    /** Makes the answer NONE, until a find finds something. */
    private void forgotten(Check check, Consumer<FuzzyFinder> call) {
        FuzzyFinder x = found();
        int place = asked.applyAsInt(x);
        call.accept(x);
        due(check, "after the call", x, -1);
        Check.compile(x, "b");
        Check.rewrite(x, "abc");
        x.weights(1, 1, 1);
        x.bound(0);
        due(check, "before a find", x, -1);
        x.find(false);
        due(check, "after a find", x, place);
    }

    private void kept(Check check, Consumer<FuzzyFinder> call) {
        FuzzyFinder x = found();
        int place = asked.applyAsInt(x);
        check.due(name + " after a find", place >= 1, true);
        call.accept(x);
        due(check, "after the call", x, place);
    }

    private void foundNone(Check check) {
        FuzzyFinder x = Check.finder("b", "aac");
        check.due("find(true)", x.find(true), -1);
        due(check, "after find(true)", x, -1);
        check.due("find(false)", x.find(false), -1);
        due(check, "after find(false)", x, -1);
        FuzzyFinder y = Check.finder("", "aac");
        check.due("find(true) without a pattern", y.find(true), -1);
        due(check, "without a pattern", y, -1);
        x.bound(1);
        check.due("find(true) within 1", x.find(true), 1);
        check.due(name + " after a find", asked.applyAsInt(x) >= 0, true);
        x.weights(9, 9, 9);
        check.due("find(true) with dearer weights", x.find(true), -1);
        due(check, "after a find in vain", x, -1);
    }

    private void noFind(Check check) {
        due(check, "of a new object", new FuzzyFinder(), -1);
        FuzzyFinder x = Check.finder("b", "abc");
        due(check, "before a find", x, -1);
        x.cost(1, 2);
        x.ends();
        due(check, "before a find", x, -1);
    }

    private void writeRefused(Check check) {
        kept(check, x -> check.due("write(B)", x.write('B'), false));
        kept(check, x -> check.due("write(`)", x.write('`'), false));
        kept(check, x -> check.due("write({)", x.write('{'), false));
        FuzzyFinder full = Check.finder("b", "ab" + "c".repeat(22));
        full.find(true);
        int place = asked.applyAsInt(full);
        check.due("write(b) beyond 24", full.write('b'), false);
        due(check, "after a write beyond 24", full, place);
        FuzzyFinder almost = Check.finder("b", "ab" + "c".repeat(21));
        almost.find(true);
        check.due("write(b) as letter 24", almost.write('b'), true);
        due(check, "after the last letter", almost, -1);
    }

    private void weightsTaken(Check check) {
        forgotten(check, x -> check.due("the same weights", x.weights(1, 1, 1), true));
        forgotten(check, x -> check.due("weights(0, 0, 0)", x.weights(0, 0, 0), true));
        forgotten(check, x -> check.due("weights(9, 9, 9)", x.weights(9, 9, 9), true));
    }

    private void weightsRefused(Check check) {
        for (int weight : new int[] {-1, 10, Integer.MIN_VALUE, Integer.MAX_VALUE}) {
            kept(check, x -> check.due("added " + weight, x.weights(weight, 1, 1), false));
            kept(check, x -> check.due("missing " + weight, x.weights(1, weight, 1), false));
            kept(check, x -> check.due("wrong " + weight, x.weights(1, 1, weight), false));
        }
    }

    private void boundTaken(Check check) {
        forgotten(check, x -> check.due("the same bound", x.bound(0), true));
        FuzzyFinder x = found();
        check.due("bound(999)", x.bound(999), true);
        due(check, "after bound(999)", x, -1);
    }

    private void boundRefused(Check check) {
        for (int most : new int[] {-1, 1000, Integer.MIN_VALUE, Integer.MAX_VALUE}) {
            kept(check, x -> check.due("bound(" + most + ")", x.bound(most), false));
        }
    }

    private void erased(Check check) {
        forgotten(check, FuzzyFinder::erase);
        FuzzyFinder x = Check.finder("b?", "");
        check.due("find(true) in an empty text", x.find(true), 0);
        due(check, "in an empty text", x, 0);
        x.erase();
        due(check, "after erase of an empty text", x, -1);
    }

    private void compiled(Check check) {
        forgotten(check, x -> check.due("the same pattern", Check.compile(x, "b"), -1));
        forgotten(check, x -> check.due("another pattern", Check.compile(x, "a|c"), -1));
        forgotten(check, x -> check.due("24 nodes", Check.compile(x, "abcdefghijkl?"), -1));
    }

    private void notCompiled(Check check) {
        kept(check, x -> check.due("nothing", x.compile(), 0));
        kept(check, x -> check.due("a fault at 0", Check.compile(x, ")"), 0));
        kept(check, x -> check.due("a fault behind", Check.compile(x, "a("), 2));
        kept(check, x -> check.due("25 nodes", Check.compile(x, "abcdefghijklm"), -2));
    }

    private void otherCalls(Check check) {
        kept(check, x -> x.type('a'));
        kept(check, x -> x.type(' '));
        kept(check, FuzzyFinder::nodes);
        kept(check, x -> x.cost(0, 3));
        kept(check, x -> x.cost(3, 0));
        kept(check, FuzzyFinder::from);
        kept(check, FuzzyFinder::to);
        kept(check, FuzzyFinder::ends);
        kept(check, x -> check.due("add()", x.add(), 0));
        kept(check, x -> {
            x.add();
            check.due("add() of the same", x.add(), -1);
        });
        kept(check, FuzzyFinder::words);
        kept(check, x -> {
            x.add();
            x.distance(0, true);
            x.distance(1, false);
            x.near(3, true);
            x.rank(0, false);
            x.rank(1, true);
        });
    }
}
