import java.util.List;
import java.util.function.Consumer;

/**
 * Two objects with the same calls, but that one has some calls more which should change nothing:
 * whatever is asked later, both answer the same.
 */
final class Twins {
    private static final List<Consumer<Run>> LATER = List.of(
        Twins::askOfPattern, Twins::askOfWords, Twins::compileWhatIsTyped, Twins::typeMore,
        Twins::typeAll, Twins::writeAll, Twins::compileAnother, Twins::changeTheBound,
        Twins::changeTheWeights, Twins::addMore);

    private Twins() {
    }

    /** Nothing but what a new object has. */
    static void asNew(Run run) {
    }

    /** Something of everything: the pending characters are a| */
    static void used(Run run) {
        for (String word : new String[] {"ab", "ba", "abc"}) {
            run.rewrite(word);
            run.add();
        }
        run.compile("ab*<3|c");
        run.weights(2, 3, 4);
        run.bound(5);
        run.rewrite("xabby");
        run.find(true);
        run.type("a|");
    }

    /** The text is a word, and nothing was typed. */
    static void usedAndCompiled(Run run) {
        used(run);
        run.rewrite("ba");
        run.find(false);
        run.compile();
    }

    /** As much of everything as there can be. */
    static void full(Run run) {
        for (char c = 'a'; c < 'a' + 20; c++) {
            run.erase();
            run.write(c);
            run.add();
        }
        run.compile("abcdefghijkl?");
        run.weights(9, 9, 9);
        run.bound(999);
        run.rewrite("abcdefghijklmnopqrstuvwx");
        run.find(true);
        run.type("a|".repeat(20));
    }

    static void same(Check check, String what, Consumer<Run> before, Consumer<Run> more) {
        for (Consumer<Run> later : LATER) {
            Run plain = new Run();
            before.accept(plain);
            int begin = plain.length();
            later.accept(plain);

            Run other = new Run();
            before.accept(other);
            more.accept(other);
            int otherBegin = other.length();
            later.accept(other);

            check.due(what + ": calls more", otherBegin > begin, true);
            check.due(what + ": calls later", other.length() - otherBegin, plain.length() - begin);
            for (int n = 0; begin + n < plain.length() && otherBegin + n < other.length(); n++) {
                check.due(what + ", later " + other.call(otherBegin + n), other.answer(otherBegin + n),
                    plain.answer(begin + n));
            }
        }
    }

    /** All that can be asked and changes nothing but the match. */
    private static void askOfPattern(Run run) {
        run.from();
        run.to();
        run.nodes();
        run.ends();
        for (int j = 0; j <= 24; j++) {
            for (int i = 0; i <= j; i++) {
                run.cost(i, j);
            }
        }
        for (boolean best : new boolean[] {true, false}) {
            run.find(best);
            run.from();
            run.to();
        }
    }

    private static void askOfWords(Run run) {
        run.words();
        for (boolean exchange : new boolean[] {true, false}) {
            for (int n = -1; n <= 20; n++) {
                run.distance(n, exchange);
                run.near(n, exchange);
                run.rank(n, exchange);
            }
        }
    }

    private static void compileWhatIsTyped(Run run) {
        run.compile();
        run.nodes();
        run.compile();
        run.compile("a");
        run.nodes();
    }

    private static void typeMore(Run run) {
        run.type("b");
        run.compile();
        run.nodes();
        run.ends();
        for (int j = 0; j <= 6; j++) {
            run.cost(0, j);
        }
    }

    private static void typeAll(Run run) {
        for (int n = 0; n <= 40; n++) {
            run.type('c');
        }
        run.compile();
        run.nodes();
    }

    private static void writeAll(Run run) {
        for (int n = 0; n <= 24; n++) {
            run.write('y');
            run.from();
        }
        for (int i = 0; i <= 24; i++) {
            run.cost(i, 24);
        }
        run.ends();
    }

    private static void compileAnother(Run run) {
        run.compile();
        run.compile("ab|c");
        run.rewrite("xab");
        for (int i = 0; i <= 3; i++) {
            run.cost(i, 3);
        }
        run.ends();
        run.find(true);
        run.find(false);
    }

    /** Shows that the weights are the same. */
    private static void changeTheBound(Run run) {
        run.compile();
        run.compile("a");
        run.bound(7);
        run.rewrite("bba");
        run.cost(0, 0);
        run.cost(0, 1);
        run.cost(2, 3);
        run.cost(1, 3);
        run.ends();
    }

    /** Shows that the bound is the same. */
    private static void changeTheWeights(Run run) {
        run.compile();
        run.compile("ab?c");
        run.erase();
        for (int missing = 0; missing <= 9; missing++) {
            run.weights(9, missing, 9);
            run.find(true);
            run.ends();
        }
    }

    private static void addMore(Run run) {
        run.add();
        for (char c = 'a'; c <= 'z'; c++) {
            run.rewrite("q" + c);
            run.add();
            run.words();
        }
        askOfWords(run);
    }
}
