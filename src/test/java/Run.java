import java.util.ArrayList;
import java.util.List;

/** An object whose calls are counted, for it has 512 at most, and whose answers are written down. */
final class Run {
    static final int MOST_CALLS = 512;

    private final FuzzyFinder finder = new FuzzyFinder();
    private final List<String> calls = new ArrayList<>();
    private final List<Integer> answers = new ArrayList<>();

    int length() {
        return calls.size();
    }

    String call(int n) {
        return calls.get(n);
    }

    int answer(int n) {
        return answers.get(n);
    }

    private int told(String call, int answer) {
        if (calls.size() >= MOST_CALLS) {
            throw new IllegalStateException("more than 512 calls");
        }
        calls.add(call);
        answers.add(answer);
        return answer;
    }

    private boolean told(String call, boolean answer) {
        return told(call, answer ? 1 : 0) == 1;
    }

    boolean type(int c) {
        return told("type(" + c + ")", finder.type((char) c));
    }

    void type(String characters) {
        characters.chars().forEach(this::type);
    }

    int compile() {
        return told("compile()", finder.compile());
    }

    int compile(String characters) {
        type(characters);
        return compile();
    }

    int nodes() {
        return told("nodes()", finder.nodes());
    }

    boolean weights(int added, int missing, int wrong) {
        return told("weights(" + added + ", " + missing + ", " + wrong + ")", finder.weights(added, missing, wrong));
    }

    boolean bound(int most) {
        return told("bound(" + most + ")", finder.bound(most));
    }

    boolean write(int c) {
        return told("write(" + c + ")", finder.write((char) c));
    }

    void erase() {
        finder.erase();
        told("erase()", 0);
    }

    void rewrite(String text) {
        erase();
        text.chars().forEach(this::write);
    }

    int cost(int i, int j) {
        return told("cost(" + i + ", " + j + ")", finder.cost(i, j));
    }

    int find(boolean best) {
        return told("find(" + best + ")", finder.find(best));
    }

    int from() {
        return told("from()", finder.from());
    }

    int to() {
        return told("to()", finder.to());
    }

    int ends() {
        return told("ends()", finder.ends());
    }

    int add() {
        return told("add()", finder.add());
    }

    int words() {
        return told("words()", finder.words());
    }

    int distance(int w, boolean exchange) {
        return told("distance(" + w + ", " + exchange + ")", finder.distance(w, exchange));
    }

    int near(int k, boolean exchange) {
        return told("near(" + k + ", " + exchange + ")", finder.near(k, exchange));
    }

    int rank(int r, boolean exchange) {
        return told("rank(" + r + ", " + exchange + ")", finder.rank(r, exchange));
    }
}
