/** erase makes the text empty, and leaves all else as it is. */
public final class Promise08EraseTest {
    public static void main(String[] args) {
        Check check = new Check();
        FuzzyFinder x = Check.finder("ab", "xaby");
        x.weights(2, 3, 4);
        x.bound(9);
        x.add();
        check.due("cost(1, 3)", x.cost(1, 3), 0);
        x.type('(');
        x.erase();
        check.due("cost(1, 3)", x.cost(1, 3), -1);
        check.due("cost(0, 1)", x.cost(0, 1), -1);
        check.due("cost(0, 0)", x.cost(0, 0), 6);
        check.due("ends()", x.ends(), 1);
        check.due("words()", x.words(), 1);
        check.due("distance(0, false)", x.distance(0, false), 4);
        check.due("nodes()", x.nodes(), 3);
        check.due("find(true)", x.find(true), 6);
        x.write('b');
        check.due("cost(0, 1) of the new text", x.cost(0, 1), 3);
        check.due("compile()", x.compile(), 1);
        x.erase();
        x.erase();
        check.due("add()", x.add(), -1);
        for (int n = 0; n < 24; n++) {
            check.due("letter " + n, x.write('a'), true);
        }
        check.due("letter 24", x.write('a'), false);
        x.erase();
        check.due("a letter again", x.write('a'), true);
        check.end();
    }
}
