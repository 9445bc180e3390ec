/** ends: a bit for each place at which a match ends. */
public final class Promise13EndsTest {
    public static void main(String[] args) {
        Check check = new Check();
        FuzzyFinder x = Check.finder("ab", "abxab");
        check.due("ends() within 0", x.ends(), 1 << 2 | 1 << 5);
        x.bound(1);
        check.due("ends() within 1", x.ends(), 1 << 1 | 1 << 2 | 1 << 3 | 1 << 4 | 1 << 5);
        x.bound(2);
        check.due("ends() within 2", x.ends(), 63);
        x.erase();
        check.due("ends() of the empty text", x.ends(), 1);
        x.bound(1);
        check.due("ends() of the empty text", x.ends(), 0);
        check.due("ends() without a pattern", Check.finder("", "abc").ends(), 0);
        check.due("ends() of all", Check.finder("a*", "a".repeat(24)).ends(), (1 << 25) - 1);
        check.due("ends() of the last", Check.finder("b", "a".repeat(23) + "b").ends(), 1 << 24);
        FuzzyFinder infinite = Check.finder("a<0", "bb");
        infinite.bound(999);
        check.due("ends() of INFINITE", infinite.ends(), 0);
        check.end();
    }
}
