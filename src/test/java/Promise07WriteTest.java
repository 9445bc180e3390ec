/** write takes the letters a .. z, and 24 of them, and puts each at the end. */
public final class Promise07WriteTest {
    public static void main(String[] args) {
        Check check = new Check();
        for (int c = 0; c <= 65535; c++) {
            check.due("write(" + c + ")", new FuzzyFinder().write((char) c), c >= 'a' && c <= 'z');
        }

        FuzzyFinder x = Check.finder(".", "");
        for (int n = 0; n < 24; n++) {
            check.due("cost of one letter more", x.cost(n, n + 1), -1);
            check.due("a refused letter", x.write('A'), false);
            check.due("cost of one letter more", x.cost(n, n + 1), -1);
            check.due("letter " + n, x.write((char) ('a' + n)), true);
            check.due("cost of one letter more", x.cost(n, n + 1), 0);
        }
        check.due("letter 24", x.write('a'), false);
        check.due("cost(24, 25)", x.cost(24, 25), -1);

        FuzzyFinder y = Check.finder("bc", "abc");
        check.due("cost(1, 3)", y.cost(1, 3), 0);
        check.due("cost(0, 2)", y.cost(0, 2), 2);
        y.write('b');
        y.write('c');
        check.due("cost(3, 5)", y.cost(3, 5), 0);
        check.due("cost(1, 3)", y.cost(1, 3), 0);
        check.end();
    }
}
