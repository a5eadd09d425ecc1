import java.util.Arrays;

/** The document's first sentence: suites find every fault of an implementation that has few enough states. */
public final class FaultsTest {
    private static final int RUNS = 600;
    private static final int FAULTS = 60;
    private static final int CALLS = 512;

    private long seed;
    private final TestBench bench;
    private final int states;
    private final int inputs;
    private final int[][] nexts;
    private final int[][] outputs;
    private int[] builtNexts;
    private int[] builtOutputs;

    public static void main(String[] args) {
        everyMachineOfThreeStates(0);
        everyMachineOfThreeStates(1);
        oneStateTooMany();
        for (int run = 0; run < RUNS; run++) {
            new FaultsTest(run).go(run);
        }
        Check.finish("FaultsTest");
    }

    /** A fault is found by a test just if a word shows it, and at no earlier place than the least such word does. */
    private static void dueVerdict(String what, TestBench x) {
        int least = x.same();
        int first = x.run();
        Check.due(what + ": found", least == 0 ? 0 : 1, first == TestBench.NONE ? 0 : 1);
        int place = x.failed();
        Check.due(what + ": its place", 1, least == 0 && place == TestBench.NONE || least > 0 && place >= least - 1 ? 1 : 0);
    }

    /** All machines of three states, two inputs and outputs 0, 1, against suites for two states and one more. */
    private static void everyMachineOfThreeStates(int method) {
        int[] built = new int[6];
        TestBench x = null;
        int calls = CALLS;
        for (int number = 0; number < 6 * 6 * 6 * 6 * 6 * 6; number++) {
            int[] digits = digits(number);
            if (calls + 16 > CALLS) {
                x = Examples.sealed(2, 2, new int[][] {{0, 0, 1, 0}, {1, 0, 0, 0}, {1, 1, 0, 1}});
                x.suite(method, 1);
                x.resize(3);
                Arrays.fill(built, -1);
                calls = 6;
            }
            for (int at = 0; at < 6; at++) {
                if (built[at] != digits[at]) {
                    built[at] = digits[at];
                    x.change(at / 2, at % 2, digits[at] / 2, digits[at] % 2);
                    calls++;
                }
            }
            dueVerdict("machine " + number + ", method " + method, x);
            calls += 3;
        }
    }

    private static int[] digits(int number) {
        int[] digits = new int[6];
        int rest = number;
        for (int at = 0; at < 6; at++) {
            digits[at] = rest % 6;
            rest /= 6;
        }
        return digits;
    }

    /** Just as many states more as the suite is made for are found, one more is not. */
    private static void oneStateTooMany() {
        for (int method = 0; method < 2; method++) {
            for (int m = 0; m <= 2; m++) {
                TestBench x = Examples.sealed(1, 1, new int[0][]);
                x.suite(method, m);
                // A chain of outputs 0 with a 1 at its end: the longest that so many states can hide.
                chain(x, 1 + m);
                Check.due("a chain of " + (1 + m) + " states, suite(" + method + ", " + m + ")", 0, x.run());
                Check.due("its place", m, x.failed());
                chain(x, 2 + m);
                Check.due("a chain of " + (2 + m) + " states, suite(" + method + ", " + m + ")", TestBench.NONE, x.run());
                Check.due("but it has a fault", 2 + m, x.same());
            }
        }
    }

    private static void chain(TestBench x, int length) {
        x.resize(length);
        for (int s = 0; s + 1 < length; s++) {
            x.change(s, 0, s + 1, 0);
        }
        x.change(length - 1, 0, 0, 1);
    }

    private FaultsTest(int run) {
        seed = 104729L * run + 3;
        states = 1 + pick(8);
        inputs = 1 + pick(3);
        nexts = new int[states][inputs];
        outputs = new int[states][inputs];
        bench = new TestBench(states, inputs);
        for (int s = 0; s < states; s++) {
            for (int input = 0; input < inputs; input++) {
                nexts[s][input] = input == 0 && pick(4) != 0 ? (s + 1) % states : pick(states);
                outputs[s][input] = pick(3) == 0 ? pick(4) : 0;
                bench.edge(s, input, nexts[s][input], outputs[s][input]);
            }
        }
    }

    private int pick(int below) {
        seed = seed * 6364136223846793005L + 1442695040888963407L;
        return (int) ((seed >>> 33) % below);
    }

    private void go(int run) {
        int minimal = bench.seal();
        int method = run % 2;
        int m = pick(3);
        if (Check.answer(() -> bench.suite(method, m)) == Check.UOE) {
            return;
        }
        int size = minimal + pick(Math.min(m, 10 - minimal) + 1);
        String what = "run " + run + ", suite(" + method + ", " + m + ")";
        buildAlike(minimal, size);
        Check.due(what + ": alike", 0, bench.same());
        dueVerdict(what + ", alike", bench);
        for (int fault = 0; fault < FAULTS; fault++) {
            tryFault(what + ", fault " + fault, size);
        }
    }

    /** A machine of so many states that gives what the minimal one gives, some of its states being twins of others. */
    private void buildAlike(int minimal, int size) {
        int[] member = members(minimal);
        int[] twinOf = new int[size];
        for (int b = 0; b < size; b++) {
            twinOf[b] = b < minimal ? b : pick(minimal);
        }
        builtNexts = new int[size * inputs];
        builtOutputs = new int[size * inputs];
        bench.resize(size);
        for (int b = 0; b < size; b++) {
            for (int input = 0; input < inputs; input++) {
                int s = member[twinOf[b]];
                int want = bench.minimal(nexts[s][input]);
                set(b, input, anyTwin(twinOf, want), outputs[s][input]);
            }
        }
    }

    private int[] members(int minimal) {
        int[] member = new int[minimal];
        for (int s = 0; s < states; s++) {
            int number = bench.minimal(s);
            if (number != TestBench.NONE) {
                member[number] = s;
            }
        }
        return member;
    }

    private int anyTwin(int[] twinOf, int want) {
        int at = pick(twinOf.length);
        while (twinOf[at] != want) {
            at = (at + 1) % twinOf.length;
        }
        return at;
    }

    private void set(int b, int input, int next, int output) {
        builtNexts[b * inputs + input] = next;
        builtOutputs[b * inputs + input] = output;
        bench.change(b, input, next, output);
    }

    /** One transition gets another next state or output, and is mended behind that. */
    private void tryFault(String what, int size) {
        int b = pick(size);
        int input = pick(inputs);
        int next = builtNexts[b * inputs + input];
        int output = builtOutputs[b * inputs + input];
        if (pick(4) == 0) {
            bench.change(b, input, next, pick(4));
        } else {
            bench.change(b, input, pick(size), output);
        }
        dueVerdict(what, bench);
        bench.change(b, input, next, output);
    }
}
