/** What is an EXPRESSION, and where the FAULT of other characters is. */
public final class TermsExpressionTest {
    public static void main(String[] args) {
        Sentences told = new Sentences("terms of expressions");
        told.test("one or more ROWS with | between them", TermsExpressionTest::rows);
        told.test("one or more ITEMS, one behind the other", TermsExpressionTest::items);
        told.test("an ATOM, and behind it any number of SUFFIXES", TermsExpressionTest::suffixes);
        told.test("* or + or ? or < and one or two digits", TermsExpressionTest::digits);
        told.test("a letter a .. z; or .", TermsExpressionTest::letters);
        told.test("[ , perhaps ^ , one or more letters, ]", TermsExpressionTest::sets);
        told.test("( , an EXPRESSION, )", TermsExpressionTest::brackets);
        told.test("with at most six such brackets ( ) around one another", TermsExpressionTest::depth);
        told.test("Digits behind < belong to its LIMIT as far as they can", TermsExpressionTest::limits);
        told.test("the FAULT is the place, from 0, of the first character", TermsExpressionTest::firstFault);
        told.test("however many nodes it has", TermsExpressionTest::faultBehindManyNodes);
        told.test("if there is none, it is their number", TermsExpressionTest::number);
        told.end();
    }

    private static void good(Check check, String... expressions) {
        for (String expression : expressions) {
            fault(check, expression, -1);
        }
    }

    private static void fault(Check check, String characters, int place) {
        check.due("compile() of " + characters, Check.compile(new FuzzyFinder(), characters), place);
    }

    private static void rows(Check check) {
        good(check, "a", "a|b", "a|b|c", "(a|b)", "(a|b|c)|d", "ab|cd");
        fault(check, "", 0);
        fault(check, "|", 0);
        fault(check, "|a", 0);
        fault(check, "a|", 2);
        fault(check, "a||b", 2);
        fault(check, "a|b|", 4);
        fault(check, "(|a)", 1);
        fault(check, "(a|", 3);
        fault(check, "(a|)", 3);
        fault(check, "(a||b)", 3);
    }

    private static void items(Check check) {
        good(check, "a", "ab", "abc", "a.b", "a[b]c", "(a)(b)", "a(b)", "(a)b", "a*b", "a<1b");
        fault(check, "()", 1);
        fault(check, "a()", 2);
        fault(check, "a|()", 3);
        fault(check, "(a|())", 4);
    }

    private static void suffixes(Check check) {
        good(check, "a", "a*", "a+", "a?", "a<1", "a**", "a*+?<1*", ".*", "[a]*", "(a)*", "(a*)*");
        fault(check, "a" + "*".repeat(23), -1);
        fault(check, "a" + "*".repeat(24), -2);
        fault(check, "a" + "*".repeat(39), -2);
        for (String suffix : new String[] {"*", "+", "?", "<", "<1"}) {
            fault(check, suffix, 0);
            fault(check, "(" + suffix, 1);
            fault(check, "a|" + suffix, 2);
            fault(check, "[" + suffix, 1);
            fault(check, "[a" + suffix, 2);
        }
    }

    private static void digits(Check check) {
        fault(check, "a<", 2);
        good(check, "a<0", "a<9", "a<00", "a<10", "a<99", "a<0*", "a<00*");
        fault(check, "a<000", 4);
        fault(check, "a<100", 4);
        fault(check, "a<b", 2);
        fault(check, "a<*", 2);
        fault(check, "a<<", 2);
        fault(check, "a<)", 2);
        // The neighbours of 0 .. 9 are / and :
        fault(check, "a</", 2);
        fault(check, "a<:", 2);
        fault(check, "a<1/", 3);
        fault(check, "a<1:", 3);
        fault(check, "a<12/", 4);
        fault(check, "a<-1", 2);
        fault(check, "a<+1", 2);
    }

    private static void letters(Check check) {
        for (char c = 33; c <= 126; c++) {
            boolean atom = c >= 'a' && c <= 'z' || c == '.';
            boolean begins = c == '[' || c == '(';
            boolean suffix = c == '*' || c == '+' || c == '?';
            fault(check, String.valueOf(c), atom ? -1 : begins ? 1 : 0);
            fault(check, "b" + c, atom || suffix ? -1 : begins || c == '|' || c == '<' ? 2 : 1);
            fault(check, "b|" + c, atom ? -1 : begins ? 3 : 2);
            fault(check, "b*" + c, atom || suffix ? -1 : begins || c == '|' || c == '<' ? 3 : 2);
        }
    }

    private static void sets(Check check) {
        good(check, "[a]", "[z]", "[ab]", "[aa]", "[^a]", "[^z]", "[^aa]", "[abcdefghijklmnopqrstuvwxyz]");
        good(check, "[" + "a".repeat(38) + "]", "[^" + "a".repeat(37) + "]");
        fault(check, "[", 1);
        fault(check, "[]", 1);
        fault(check, "[]a]", 1);
        fault(check, "[^", 2);
        fault(check, "[^]", 2);
        fault(check, "[^^", 2);
        fault(check, "[^^a]", 2);
        fault(check, "[a", 2);
        fault(check, "[^a", 3);
        fault(check, "[a]]", 3);
        fault(check, "]", 0);
        fault(check, "a]", 1);
        fault(check, "^", 0);
        fault(check, "^a", 0);
        fault(check, "a^", 1);
        for (char c = 33; c <= 126; c++) {
            boolean letter = c >= 'a' && c <= 'z';
            fault(check, "[" + c, letter || c == '^' ? 2 : 1);
            fault(check, "[^" + c, letter ? 3 : 2);
            fault(check, "[b" + c, c == ']' ? -1 : letter ? 3 : 2);
            fault(check, "[^b" + c, c == ']' ? -1 : letter ? 4 : 3);
        }
    }

    private static void brackets(Check check) {
        good(check, "(a)", "((a))", "(a)(b)", "(a|b)", "(a*)", "(a<1)", "(a)<1", "([a])", "(.)");
        fault(check, "(", 1);
        fault(check, ")", 0);
        fault(check, "(a", 2);
        fault(check, "a)", 1);
        fault(check, "(a))", 3);
        fault(check, "(a)(", 4);
        fault(check, "((a)", 4);
        fault(check, "(a]", 2);
        fault(check, "(a|b))", 5);
        fault(check, "(a<)", 3);
        fault(check, "(a<1", 4);
        fault(check, "([a)", 3);
    }

    private static void depth(Check check) {
        good(check, "(((((a)))))", "((((((a))))))", "(((((([a]))))))", "((((((a*)*)*)*)*)*)*");
        fault(check, "(((((((a)))))))", 6);
        fault(check, "(((((((", 6);
        fault(check, "((((((", 6);
        fault(check, "((((((a", 7);
        fault(check, "((((((a(", 7);
        fault(check, "((((((a|(", 8);
        fault(check, "((((((a)))))))", 13);
        // Six side by side with six; the closed ones are not around the later ones.
        good(check, "((((((a))))))((((((b))))))", "(((((a)(b)))))", "((((((a)(b))))))");
        fault(check, "((((((a))))))(((((((b", 19);
        fault(check, "(((((a)(((b", 9);
        fault(check, "(((((a)|((b", 11);
        fault(check, "(a)(a)(a)(a)(a)(a)(a)(a)", -1);
    }

    /** WRONG and MISSING + ADDED are 9 and more, so that a limit of 9 is just enough for one letter. */
    private static void limits(Check check) {
        check.due("a<8", costOfWrongLetter("a<8"), -1);
        check.due("a<9", costOfWrongLetter("a<9"), 9);
        check.due("a<08", costOfWrongLetter("a<08"), -1);
        check.due("a<09", costOfWrongLetter("a<09"), 9);
        check.due("a<10", costOfWrongLetter("a<10"), 9);
        check.due("a<80", costOfWrongLetter("a<80"), 9);
        check.due("a<1<9", costOfWrongLetter("a<1<9"), -1);
        check.due("a<9<1", costOfWrongLetter("a<9<1"), -1);
        check.due("a<9<9", costOfWrongLetter("a<9<9"), 9);
        check.due("a<12<34", costOfWrongLetter("a<12<34"), 9);
        fault(check, "a<123", 4);
        fault(check, "a<1<123", 6);
        fault(check, "a<1*5", 4);
        fault(check, "a<12*5", 5);
        fault(check, "(a<1)5", 5);
        fault(check, "a<1|5", 4);
        fault(check, "a<1b5", 4);
        fault(check, "a<12<", 5);
        fault(check, "a<1<", 4);
        fault(check, "a5", 1);
        fault(check, "5", 0);
        good(check, "a<1b<2", "a<1|b<22", "(a<1)<2", "a<1[b]", "a<1.", "a<1(b)", "a<12(b)");
    }

    private static int costOfWrongLetter(String expression) {
        FuzzyFinder x = Check.finder(expression, "b");
        x.weights(9, 9, 9);
        return x.cost(0, 1);
    }

    private static void firstFault(Check check) {
        fault(check, "A", 0);
        fault(check, "AB", 0);
        fault(check, "aBC", 1);
        fault(check, "a)b)", 1);
        fault(check, "(((()", 4);
        fault(check, "a||b||c", 2);
        fault(check, "[a^b^c]", 2);
        fault(check, "a".repeat(38) + "!b", 38);
        fault(check, "a".repeat(39) + "!", 39);
        // What goes on well behind the fault does not matter.
        fault(check, ")a|b", 0);
        fault(check, "a<b<1", 2);
    }

    private static void faultBehindManyNodes(Check check) {
        fault(check, "abcdefghijkl?" + ")", 13);
        fault(check, "abcdefghijklm" + ")", 13);
        fault(check, "a".repeat(39) + ")", 39);
        fault(check, "a" + "*".repeat(38) + ")", 39);
        fault(check, "a|".repeat(19) + "|", 38);
        fault(check, "a".repeat(36) + "<123", 39);
        fault(check, "a".repeat(20) + "(((((((", 26);
        fault(check, "a".repeat(20) + "[^]", 22);
    }

    private static void number(Check check) {
        fault(check, "", 0);
        fault(check, "(", 1);
        fault(check, "[", 1);
        fault(check, "a|", 2);
        fault(check, "a<", 2);
        fault(check, "(a<1", 4);
        fault(check, "[^" + "a".repeat(37), 39);
        fault(check, "[^" + "a".repeat(38), 40);
        fault(check, "(" + "a".repeat(39), 40);
        fault(check, "a".repeat(39) + "|", 40);
        fault(check, "a".repeat(39) + "<", 40);
        fault(check, "a".repeat(39) + "(", 40);
    }
}
