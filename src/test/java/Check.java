/** Compares answers with what is due, and remembers whether all were right. */
final class Check {
    private static final int MOST_TOLD = 10;

    private int wrong = 0;
    private int asked = 0;

    void due(String call, long got, long want) {
        asked++;
        if (got != want) {
            fails(call + " answered " + got + ", due is " + want);
        }
    }

    void due(String call, boolean got, boolean want) {
        due(call, got ? 1 : 0, want ? 1 : 0);
    }

    /** Tells the first faults only: one mistake can make thousands. */
    void fails(String how) {
        wrong++;
        if (wrong <= MOST_TOLD) {
            System.out.println(how);
        } else if (wrong == MOST_TOLD + 1) {
            System.out.println("..");
        }
    }

    /** A test that asked for nothing does not count as passed. */
    boolean holds() {
        return wrong == 0 && asked > 0;
    }

    static void type(FuzzyFinder finder, String characters) {
        for (char c : characters.toCharArray()) {
            if (!finder.type(c)) {
                throw new IllegalStateException("not typed: " + characters);
            }
        }
    }

    static int compile(FuzzyFinder finder, String expression) {
        type(finder, expression);
        return finder.compile();
    }

    static void rewrite(FuzzyFinder finder, String text) {
        finder.erase();
        for (char c : text.toCharArray()) {
            if (!finder.write(c)) {
                throw new IllegalStateException("not written: " + text);
            }
        }
    }

    static FuzzyFinder finder(String expression, String text) {
        FuzzyFinder finder = new FuzzyFinder();
        if (!expression.isEmpty() && compile(finder, expression) != FuzzyFinder.GOOD) {
            throw new IllegalStateException("not compiled: " + expression);
        }
        rewrite(finder, text);
        return finder;
    }

    /** An object with these words, and an empty text. */
    static FuzzyFinder dictionary(String... words) {
        FuzzyFinder finder = new FuzzyFinder();
        for (String word : words) {
            rewrite(finder, word);
            if (finder.add() == FuzzyFinder.NONE) {
                throw new IllegalStateException("not added: " + word);
            }
        }
        finder.erase();
        return finder;
    }

    /** So many different words of two letters: wa, wb and so on. */
    static String[] words(int number) {
        String[] words = new String[number];
        for (int w = 0; w < number; w++) {
            words[w] = "w" + (char) ('a' + w);
        }
        return words;
    }

    /** The match of the latest find as one number: from * 100 + to, or NONE. */
    static int match(FuzzyFinder finder) {
        if (finder.from() == FuzzyFinder.NONE && finder.to() == FuzzyFinder.NONE) {
            return FuzzyFinder.NONE;
        }
        return finder.from() * 100 + finder.to();
    }
}
