/** Compares answers with what is due, and tells at the end whether all were right. */
final class Check {
    private int wrong = 0;
    private int asked = 0;

    void due(String call, long got, long want) {
        asked++;
        if (got != want) {
            wrong++;
            System.out.println(call + " answered " + got + ", due is " + want);
        }
    }

    void due(String call, boolean got, boolean want) {
        due(call, got ? 1 : 0, want ? 1 : 0);
    }

    /** Ends the program, with exit code 1 if an answer was wrong or none was asked for. */
    void end() {
        if (wrong > 0 || asked == 0) {
            System.out.println(wrong + " of " + asked + " answers are not as due");
            System.exit(1);
        }
    }

    static int compile(FuzzyFinder finder, String expression) {
        for (char c : expression.toCharArray()) {
            if (!finder.type(c)) {
                throw new IllegalStateException("not typed: " + expression);
            }
        }
        return finder.compile();
    }

    static void rewrite(FuzzyFinder finder, String text) {
        finder.erase();
        for (char c : text.toCharArray()) {
            if (!finder.write(c)) {
                throw new IllegalStateException("not written: " + text);
            }
        }
    }

    static FuzzyFinder finder(String expression, String text) {
        FuzzyFinder finder = new FuzzyFinder();
        if (!expression.isEmpty() && compile(finder, expression) != FuzzyFinder.GOOD) {
            throw new IllegalStateException("not compiled: " + expression);
        }
        rewrite(finder, text);
        return finder;
    }

    static FuzzyFinder dictionary(String... words) {
        FuzzyFinder finder = new FuzzyFinder();
        for (String word : words) {
            rewrite(finder, word);
            finder.add();
        }
        finder.erase();
        return finder;
    }

    /** The match of the latest find as one number: from * 100 + to, or NONE. */
    static int match(FuzzyFinder finder) {
        if (finder.from() == FuzzyFinder.NONE && finder.to() == FuzzyFinder.NONE) {
            return FuzzyFinder.NONE;
        }
        return finder.from() * 100 + finder.to();
    }
}
