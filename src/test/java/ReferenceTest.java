import java.util.ArrayList;
import java.util.List;

/** Many runs of calls, the same for ever, whose answers must be those of the Reference. */
public final class ReferenceTest {
    private static final int RUNS = 1000;
    private static final int CALLS = 512;

    private long seed;
    private TestBench bench;
    private Reference reference;
    private int states;
    private int inputs;
    private final List<String> calls = new ArrayList<>();
    private boolean differs;
    private int used;

    public static void main(String[] args) {
        for (int run = 0; run < RUNS; run++) {
            new ReferenceTest(run).go(run);
        }
        Check.finish("ReferenceTest");
    }

    private ReferenceTest(int run) {
        seed = 7919L * run + 1;
    }

    private int pick(int below) {
        seed = seed * 6364136223846793005L + 1442695040888963407L;
        return (int) ((seed >>> 33) % below);
    }

    /** Mostly inside 0 .. below - 1, now and then outside. */
    private int near(int below) {
        int odd = pick(60);
        if (odd == 0) {
            return -1;
        }
        if (odd == 1) {
            return below;
        }
        if (odd == 2) {
            return pick(2) == 0 ? Integer.MIN_VALUE : Integer.MAX_VALUE;
        }
        return pick(Math.max(1, below));
    }

    /** What an object answers behind its 512th call is free. */
    private boolean mayCall() {
        return used < CALLS && !differs;
    }

    private void ask(String call, int want, int got) {
        used++;
        calls.add(call + " = " + got);
        if (want != got && !differs) {
            differs = true;
            calls.forEach(System.out::println);
        }
        Check.due(call, want, got);
    }

    private void go(int run) {
        int n = pick(12) - 2;
        int k = pick(7) - 1;
        n = pick(3) == 0 ? 8 : n;
        bench = new TestBench(n, k);
        reference = new Reference(n, k);
        calls.add("run " + run + ": new TestBench(" + n + ", " + k + ")");
        states = reference.look(0);
        inputs = reference.look(1);
        describe(pick(4));
        while (mayCall()) {
            // Sealing comes late enough that the calls before it are tried too.
            if (reference.look(2) == 0 && pick(25) == 0) {
                seal();
            } else {
                anyCall(pick(40));
            }
        }
    }

    /** Edges of one of several kinds. */
    private void describe(int kind) {
        for (int s = 0; s < states; s++) {
            for (int a = 0; a < inputs; a++) {
                int next = kind == 0 ? pick(states) : kind == 1 && a == 0 ? (s + 1) % states : kind == 2 ? pick(s + 1) : (s + pick(3)) % states;
                int output = kind == 0 ? pick(4) : pick(9) == 0 ? pick(4) : 0;
                if (pick(10) != 0) {
                    edge(s, a, next, output);
                }
            }
        }
    }

    private void edge(int s, int a, int next, int output) {
        ask("edge(" + s + ", " + a + ", " + next + ", " + output + ")", Check.answerOf(() -> reference.edge(s, a, next, output)), Check.answerOf(() -> bench.edge(s, a, next, output)));
    }

    private void anyCall(int which) {
        switch (which) {
            case 0, 1 -> edge(near(states), near(inputs), near(states), near(4));
            case 2 -> start(near(states));
            case 3 -> sealAgain();
            case 4, 5 -> minimal(near(states));
            case 6, 7 -> apart(near(states), near(states));
            case 8, 9, 10 -> word(near(8));
            case 11, 12, 13 -> family(near(7) - pick(2), near(8) - pick(2));
            case 14, 15, 16 -> own(near(states), near(7) - pick(2));
            case 17, 18 -> suite(near(2), near(3));
            case 19, 20, 21, 22, 23 -> test(near(Math.max(1, reference.look(4))), near(12) - pick(2), pick(2) == 0);
            case 24 -> resize(pick(12));
            case 25, 26 -> change(near(Math.max(1, reference.look(5))), near(inputs), near(Math.max(1, reference.look(5))), near(4));
            case 27, 28, 29 -> ask("run()", Check.answer(reference::run), Check.answer(bench::run));
            case 30, 31 -> ask("failed()", reference.failed(), bench.failed());
            case 32, 33 -> begin(near(Math.max(1, reference.look(4))));
            case 34, 35 -> giveSome(1 + pick(12));
            case 36, 37 -> ask("same()", Check.answer(reference::same), Check.answer(bench::same));
            case 38 -> ask("covered()", reference.covered(), bench.covered());
            default -> look(near(7));
        }
    }

    private void sealAgain() {
        if (reference.look(2) == 1) {
            seal();
        }
    }

    private void seal() {
        ask("seal()", Check.answer(reference::seal), Check.answer(bench::seal));
    }

    private void start(int s) {
        ask("start(" + s + ")", Check.answerOf(() -> reference.start(s)), Check.answerOf(() -> bench.start(s)));
    }

    private void minimal(int s) {
        ask("minimal(" + s + ")", reference.minimal(s), bench.minimal(s));
    }

    private void apart(int s, int t) {
        ask("apart(" + s + ", " + t + ")", Check.answer(() -> reference.apart(s, t)), Check.answer(() -> bench.apart(s, t)));
    }

    private void word(int i) {
        ask("word(" + i + ")", reference.word(i), bench.word(i));
    }

    private void family(int w, int i) {
        ask("family(" + w + ", " + i + ")", reference.family(w, i), bench.family(w, i));
    }

    private void own(int s, int w) {
        ask("own(" + s + ", " + w + ")", reference.own(s, w), bench.own(s, w));
    }

    private void suite(int method, int m) {
        ask("suite(" + method + ", " + m + ")", Check.answer(() -> reference.suite(method, m)), Check.answer(() -> bench.suite(method, m)));
        if (mayCall()) {
            look(6);
        }
    }

    private void test(int w, int i, boolean expected) {
        ask("test(" + w + ", " + i + ", " + expected + ")", reference.test(w, i, expected), bench.test(w, i, expected));
    }

    private void resize(int n) {
        ask("resize(" + n + ")", Check.answerOf(() -> reference.resize(n)), Check.answerOf(() -> bench.resize(n)));
    }

    private void change(int s, int a, int next, int output) {
        ask("change(" + s + ", " + a + ", " + next + ", " + output + ")", Check.answerOf(() -> reference.change(s, a, next, output)), Check.answerOf(() -> bench.change(s, a, next, output)));
    }

    private void begin(int w) {
        ask("begin(" + w + ")", Check.answer(() -> reference.begin(w)), Check.answer(() -> bench.begin(w)));
    }

    private void look(int which) {
        ask("look(" + which + ")", reference.look(which), bench.look(which));
    }

    private void giveSome(int times) {
        for (int i = 0; i < times && mayCall(); i++) {
            int output = pick(8) == 0 ? near(4) : 0;
            ask("give(" + output + ")", Check.answer(() -> reference.give(output)), Check.answer(() -> bench.give(output)));
        }
    }
}
