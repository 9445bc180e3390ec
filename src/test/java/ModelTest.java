import java.util.Random;

/** Runs of calls that are drawn from fixed seeds: every answer is the one that the model gives. */
public final class ModelTest {
    private static final int RUNS = 300;
    private static final int CALLS = 512;
    private static final String SIGNS = "aabbcd.[]^()()||*+?<0159";

    public static void main(String[] args) {
        Sentences told = new Sentences("model");
        told.test("every answer of " + RUNS + " runs is the one that the model gives", ModelTest::playAll);
        told.end();
    }

    private static void playAll(Check check) {
        for (int run = 0; run < RUNS; run++) {
            new ModelTest(run, check).play();
        }
    }

    private final int run;
    private final Check check;
    private final Random random;
    private final FuzzyFinder finder = new FuzzyFinder();
    private final Model model = new Model();
    private int calls = 0;

    private ModelTest(int run, Check check) {
        this.run = run;
        this.check = check;
        this.random = new Random(run);
    }

    private void play() {
        while (calls < CALLS - 45) {
            switch (random.nextInt(12)) {
                case 0 -> compileSomething();
                case 1, 2 -> writeSomething();
                case 3 -> setSomething();
                case 4, 5, 6 -> askOfPattern();
                case 7, 8 -> askOfMatch();
                case 9 -> addSomething();
                default -> askOfWords();
            }
        }
    }

    private void due(String call, long got, long want) {
        calls++;
        check.due("run " + run + ", call " + calls + ": " + call, got, want);
    }

    private void due(String call, boolean got, boolean want) {
        due(call, got ? 1 : 0, want ? 1 : 0);
    }

    private void compileSomething() {
        StringBuilder characters = new StringBuilder();
        if (random.nextInt(4) == 0) {
            for (int n = random.nextInt(12); n > 0; n--) {
                characters.append(SIGNS.charAt(random.nextInt(SIGNS.length())));
            }
        } else {
            expression(characters, 0, 1 + random.nextInt(5));
            if (random.nextInt(4) == 0) {
                int at = random.nextInt(characters.length());
                characters.setCharAt(at, SIGNS.charAt(random.nextInt(SIGNS.length())));
            }
        }
        int number = Math.min(characters.length(), random.nextInt(20) == 0 ? 41 : 40);
        for (int at = 0; at < number; at++) {
            type(characters.charAt(at));
        }
        if (random.nextInt(10) > 0) {
            due("compile()", finder.compile(), model.compile());
            due("nodes()", finder.nodes(), model.nodes());
        }
    }

    private void type(char c) {
        due("type(" + c + ")", finder.type(c), model.type(c));
    }

    private void expression(StringBuilder into, int depth, int size) {
        row(into, depth, size);
        while (random.nextInt(3) == 0) {
            into.append('|');
            row(into, depth, size);
        }
    }

    private void row(StringBuilder into, int depth, int size) {
        for (int n = 1 + random.nextInt(size); n > 0; n--) {
            atom(into, depth);
            while (random.nextInt(5) < 2) {
                suffix(into);
            }
        }
    }

    private void atom(StringBuilder into, int depth) {
        int kind = random.nextInt(8);
        if (kind == 0) {
            into.append('.');
        } else if (kind == 1) {
            into.append(random.nextBoolean() ? "[^" : "[").append(letter());
            into.append(random.nextBoolean() ? "" : letter()).append(']');
        } else if (kind <= 3 && depth < 7) {
            into.append('(');
            expression(into, depth + 1, 2);
            into.append(')');
        } else {
            into.append(letter());
        }
    }

    private void suffix(StringBuilder into) {
        switch (random.nextInt(5)) {
            case 0 -> into.append('*');
            case 1 -> into.append('+');
            case 2 -> into.append('?');
            default -> into.append('<').append(random.nextInt(random.nextBoolean() ? 6 : 30));
        }
    }

    private char letter() {
        return (char) ('a' + random.nextInt(random.nextInt(8) == 0 ? 26 : 3));
    }

    private void writeSomething() {
        if (random.nextInt(6) == 0) {
            finder.erase();
            model.erase();
            calls++;
        }
        for (int n = random.nextInt(random.nextInt(6) == 0 ? 26 : 5); n > 0; n--) {
            char c = random.nextInt(30) == 0 ? (char) random.nextInt(300) : letter();
            due("write(" + c + ")", finder.write(c), model.write(c));
        }
    }

    private void setSomething() {
        if (random.nextBoolean()) {
            int a = random.nextInt(12) - 1;
            int m = random.nextInt(10);
            int w = random.nextInt(10);
            due("weights(" + a + ", " + m + ", " + w + ")", finder.weights(a, m, w), model.weights(a, m, w));
        } else {
            int most = random.nextInt(random.nextInt(5) == 0 ? 1100 : 12) - 1;
            due("bound(" + most + ")", finder.bound(most), model.bound(most));
        }
    }

    private void askOfPattern() {
        int most = random.nextInt(6) == 0 ? 24 : model.length();
        int i = random.nextInt(most + 2) - 1;
        int j = random.nextInt(4) == 0 ? random.nextInt(27) - 1 : i + random.nextInt(Math.max(1, most - i + 2));
        due("cost(" + i + ", " + j + ")", finder.cost(i, j), model.cost(i, j));
        due("nodes()", finder.nodes(), model.nodes());
    }

    private void askOfMatch() {
        if (random.nextInt(3) > 0) {
            boolean best = random.nextBoolean();
            due("find(" + best + ")", finder.find(best), model.find(best));
        }
        due("from()", finder.from(), model.from());
        due("to()", finder.to(), model.to());
        due("ends()", finder.ends(), model.ends());
    }

    private void addSomething() {
        if (random.nextBoolean()) {
            finder.erase();
            model.erase();
            calls++;
            for (int n = 1 + random.nextInt(4); n > 0; n--) {
                char c = letter();
                due("write(" + c + ")", finder.write(c), model.write(c));
            }
        }
        due("add()", finder.add(), model.add());
        due("words()", finder.words(), model.words());
    }

    private void askOfWords() {
        boolean exchange = random.nextBoolean();
        int w = random.nextInt(random.nextInt(6) == 0 ? 22 : model.words() + 2) - 1;
        int k = random.nextInt(10) - 1;
        due("distance(" + w + ", " + exchange + ")", finder.distance(w, exchange), model.distance(w, exchange));
        due("near(" + k + ", " + exchange + ")", finder.near(k, exchange), model.near(k, exchange));
        due("rank(" + w + ", " + exchange + ")", finder.rank(w, exchange), model.rank(w, exchange));
    }
}
