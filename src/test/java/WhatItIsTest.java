/** An object is used for at most 512 calls: the last ones answer as the first ones do. */
public final class WhatItIsTest {
    public static void main(String[] args) {
        Sentences told = new Sentences("at most 512 calls");
        told.test("each question, asked again up to the last call", WhatItIsTest::questions);
        told.test("refused calls up to the last", WhatItIsTest::refused);
        told.test("compile up to the last call", WhatItIsTest::compiles);
        told.test("write and erase up to the last call", WhatItIsTest::texts);
        told.test("weights and bound up to the last call", WhatItIsTest::settings);
        told.test("no call throws, whatever is asked of whatever object", WhatItIsTest::throwsNothing);
        told.end();
    }

    /** An object with all that there can be, after 142 calls. */
    private static Run full() {
        Run run = new Run();
        Twins.full(run);
        return run;
    }

    private interface Question {
        int ask(Run run);
    }

    private static void questions(Check check) {
        Question[] all = {
            Run::nodes, run -> run.cost(0, 24), run -> run.find(true), run -> run.find(false), Run::from, Run::to,
            Run::ends, Run::words, run -> run.distance(19, true), run -> run.near(24, true), run -> run.rank(19, true),
        };
        for (int n = 0; n < all.length; n++) {
            Run run = full();
            int first = all[n].ask(run);
            check.due("question " + n + " is answered", first >= 0, true);
            while (run.length() < Run.MOST_CALLS) {
                check.due("question " + n, all[n].ask(run), first);
            }
        }
    }

    private static void refused(Check check) {
        Run typing = new Run();
        while (typing.length() < Run.MOST_CALLS - 1) {
            int typed = typing.length();
            check.due("type(a)", typing.type('a'), typed < 40);
        }
        check.due("compile()", typing.compile(), -2);

        Run writing = new Run();
        writing.compile(".");
        while (writing.length() < Run.MOST_CALLS - 2) {
            int written = writing.length() - 2;
            check.due("write(a)", writing.write('a'), written < 24);
        }
        check.due("cost(0, 25)", writing.cost(0, 25), -1);
        check.due("cost(0, 24)", writing.cost(0, 24), 23);

        Run adding = full();
        while (adding.length() < Run.MOST_CALLS - 1) {
            check.due("add()", adding.add(), -1);
        }
        check.due("words()", adding.words(), 20);
    }

    private static void compiles(Check check) {
        Run run = new Run();
        while (run.length() + 6 <= Run.MOST_CALLS) {
            check.due("compile() of nothing", run.compile(), 0);
            check.due("compile() of (", run.compile("("), 1);
            check.due("compile() of a", run.compile("a"), -1);
            check.due("nodes()", run.nodes(), 1);
        }
        check.due("calls", run.length(), 510);
        check.due("nodes()", run.nodes(), 1);
        check.due("cost(0, 0)", run.cost(0, 0), 1);
    }

    private static void texts(Check check) {
        Run run = new Run();
        run.compile("a*");
        while (run.length() + 30 <= Run.MOST_CALLS) {
            for (int n = 0; n <= 24; n++) {
                check.due("write(a)", run.write('a'), n < 24);
            }
            check.due("cost(0, 24)", run.cost(0, 24), 0);
            check.due("ends()", run.ends(), (1 << 25) - 1);
            run.erase();
            check.due("cost(0, 0)", run.cost(0, 0), 0);
            check.due("cost(0, 1)", run.cost(0, 1), -1);
        }
        Run erasing = new Run();
        while (erasing.length() < Run.MOST_CALLS - 3) {
            erasing.erase();
        }
        check.due("write(a)", erasing.write('a'), true);
        check.due("add()", erasing.add(), 0);
        check.due("distance(0, true)", erasing.distance(0, true), 0);
    }

    private static void settings(Check check) {
        Run run = new Run();
        run.compile("ab");
        for (int n = 0; run.length() + 4 <= Run.MOST_CALLS; n++) {
            int weight = n % 10;
            check.due("weights", run.weights(weight, weight, weight), true);
            check.due("bound", run.bound(10), true);
            check.due("cost(0, 0)", run.cost(0, 0), 2 * weight);
            check.due("find(true)", run.find(true), weight <= 5 ? 2 * weight : -1);
        }
    }

    private static void throwsNothing(Check check) {
        int[] numbers = {
            Integer.MIN_VALUE, Integer.MIN_VALUE + 1, -65536, -2, -1, 0, 1, 9, 10, 12, 19, 20, 24, 25, 26, 65536, 999,
            1000, Integer.MAX_VALUE - 1, Integer.MAX_VALUE,
        };
        for (int a : numbers) {
            for (int kind = 0; kind < 3; kind++) {
                Run run = new Run();
                if (kind == 1) {
                    Twins.used(run);
                } else if (kind == 2) {
                    Twins.full(run);
                }
                for (int b : numbers) {
                    run.cost(a, b);
                    run.weights(a, b, 1);
                }
                for (boolean flag : new boolean[] {true, false}) {
                    run.distance(a, flag);
                    run.near(a, flag);
                    run.rank(a, flag);
                    run.find(flag);
                }
                run.bound(a);
                run.type(a);
                run.write(a);
                run.add();
                run.ends();
                run.compile();
                run.nodes();
                run.find(true);
                check.due("calls answered", run.length() > 0, true);
            }
        }
    }
}
