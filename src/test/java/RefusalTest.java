import java.util.ArrayList;
import java.util.List;
import java.util.function.Consumer;
import java.util.function.Function;
import java.util.function.Supplier;
import java.util.function.ToIntFunction;

/**
 * "Of several exceptions the first one listed is thrown. What throws, or is refused, changes nothing."
 * Two objects are led the same way, one of them is refused a call, and behind it both must answer alike.
 */
public final class RefusalTest {
    private static final int STATES = 5;
    private static final int INPUTS = 3;
    /** The test by hand that is under way in the phases with a suite, with one output given: 00100011 with the outputs 00000010. */
    private static final int HAND = 9;

    /** What an object has behind it. */
    private record Phase(String name, boolean sealed, boolean suited, int built, Supplier<TestBench> made) {
    }

    /** A row of calls that shows a part of what an object holds. */
    private record Watch(String name, Function<TestBench, List<Integer>> answers) {
    }

    private static final Phase[] PHASES = {
        new Phase("open", false, false, 0, RefusalTest::open),
        new Phase("open with another start", false, false, 0, RefusalTest::openElsewhere),
        new Phase("sealed", true, false, 5, RefusalTest::sealed),
        new Phase("with a suite that is passed", true, true, 5, RefusalTest::passed),
        new Phase("with a suite that is failed", true, true, 7, RefusalTest::failed),
    };

    private static final Watch[] WATCHES = {
        new Watch("what can be read", RefusalTest::read),
        new Watch("the tests", RefusalTest::readTests),
        new Watch("the test by hand", RefusalTest::goOnByHand),
        new Watch("run and same", RefusalTest::runAndCompare),
        new Watch("the specification", RefusalTest::sealAndCompare),
        new Watch("a new suite", RefusalTest::makeSuite),
    };

    private RefusalTest() {
    }

    public static void main(String[] args) {
        phasesAreAsNamed();
        for (Phase phase : PHASES) {
            wrongEdges(phase);
            wrongStarts(phase);
            wrongAparts(phase);
            wrongSuites(phase);
            wrongSizes(phase);
            wrongChanges(phase);
            wrongBegins(phase);
            wrongOutputs(phase);
            if (phase.sealed) {
                whenSealed(phase);
            } else {
                beforeSeal(phase);
            }
            if (!phase.suited) {
                withoutSuite(phase);
            }
            answeredByNone(phase);
        }
        Check.finish("RefusalTest");
    }

    private static TestBench open() {
        return Examples.open(STATES, INPUTS, Examples.ONE_TOO_MANY);
    }

    private static TestBench openElsewhere() {
        TestBench x = open();
        x.start(1);
        return x;
    }

    private static TestBench sealed() {
        TestBench x = open();
        x.seal();
        x.apart(1, 2);
        return x;
    }

    private static TestBench passed() {
        TestBench x = sealed();
        x.suite(0, 0);
        x.run();
        x.begin(HAND);
        x.give(x.test(HAND, 0, true));
        return x;
    }

    private static TestBench failed() {
        TestBench x = sealed();
        x.resize(7);
        x.change(4, 1, 6, 0);
        x.suite(0, 0);
        x.run();
        x.begin(HAND);
        x.give(x.test(HAND, 0, true));
        return x;
    }

    private static void phasesAreAsNamed() {
        for (Phase phase : PHASES) {
            TestBench x = phase.made.get();
            Check.due(phase.name + ": sealed", phase.sealed ? 1 : 0, x.look(2));
            Check.due(phase.name + ": tests", 1, x.look(4) > HAND == phase.suited ? 1 : 0);
            Check.due(phase.name + ": states of the implementation", phase.built, x.look(5));
        }
        Check.dueText("the word", "11", Examples.word(sealed()));
        Check.due("the suite is passed", TestBench.NONE, passed().failed());
        Check.due("the suite is failed", 6, failed().failed());
        Check.dueText("the test by hand", "[1, 0, 0, 0, 1, 1, -1, " + Check.ISE + ", " + Check.ISE + "]", goOnByHand(passed()).toString());
    }

    private static void refused(Phase phase, String call, int want, ToIntFunction<TestBench> made) {
        for (Watch watch : WATCHES) {
            TestBench x = phase.made.get();
            TestBench twin = phase.made.get();
            String name = phase.name + ": " + call;
            Check.due(name, want, () -> made.applyAsInt(x));
            Check.dueText(name + " changes nothing of " + watch.name, watch.answers.apply(twin).toString(), watch.answers.apply(x).toString());
        }
    }

    private static void refusedOf(Phase phase, String call, int want, Consumer<TestBench> made) {
        refused(phase, call, want, x -> {
            made.accept(x);
            return 0;
        });
    }

    /** Numbers on both sides of 0 .. count - 1, the nearest ones and far ones. */
    private static List<Integer> outside(int count) {
        List<Integer> all = new ArrayList<>(List.of(-1, count));
        for (int far : Examples.FAR) {
            all.add(far);
        }
        return all;
    }

    /** Promise 2: IllegalArgumentException is listed first, so it is thrown when sealed, too. */
    private static void wrongEdges(Phase phase) {
        for (int s : outside(STATES)) {
            refusedOf(phase, "edge from " + s, Check.IAE, x -> x.edge(s, 0, 4, 3));
            refusedOf(phase, "edge to " + s, Check.IAE, x -> x.edge(1, 0, s, 3));
        }
        for (int input : outside(INPUTS)) {
            refusedOf(phase, "edge with input " + input, Check.IAE, x -> x.edge(1, input, 4, 3));
        }
        for (int output : outside(4)) {
            refusedOf(phase, "edge with output " + output, Check.IAE, x -> x.edge(1, 0, 4, output));
        }
    }

    /** Promise 3: IllegalArgumentException is listed first. */
    private static void wrongStarts(Phase phase) {
        for (int s : outside(STATES)) {
            refusedOf(phase, "start(" + s + ")", Check.IAE, x -> x.start(s));
        }
    }

    /** Promise 6: IllegalArgumentException is listed first, so it is thrown before seal, too. */
    private static void wrongAparts(Phase phase) {
        for (int s : outside(STATES)) {
            refused(phase, "apart(" + s + ", 0)", Check.IAE, x -> x.apart(s, 0));
            refused(phase, "apart(0, " + s + ")", Check.IAE, x -> x.apart(0, s));
        }
    }

    /** Promise 10: IllegalArgumentException is listed first, also where no suite of that m would fit. */
    private static void wrongSuites(Phase phase) {
        for (int method : outside(2)) {
            refused(phase, "suite(" + method + ", 0)", Check.IAE, x -> x.suite(method, 0));
            refused(phase, "suite(" + method + ", 2)", Check.IAE, x -> x.suite(method, 2));
        }
        for (int m : outside(3)) {
            refused(phase, "suite(0, " + m + ")", Check.IAE, x -> x.suite(0, m));
            refused(phase, "suite(1, " + m + ")", Check.IAE, x -> x.suite(1, m));
        }
    }

    /** Promise 12: IllegalArgumentException is listed first. */
    private static void wrongSizes(Phase phase) {
        refusedOf(phase, "resize(0)", Check.IAE, x -> x.resize(0));
        for (int n : outside(11)) {
            refusedOf(phase, "resize(" + n + ")", Check.IAE, x -> x.resize(n));
        }
    }

    /** Promise 13: IllegalStateException is listed first, so before seal it is thrown for wrong arguments, too. */
    private static void wrongChanges(Phase phase) {
        int want = phase.sealed ? Check.IAE : Check.ISE;
        for (int s : outside(phase.built)) {
            refusedOf(phase, "change from " + s, want, x -> x.change(s, 0, 2, 3));
            refusedOf(phase, "change to " + s, want, x -> x.change(0, 0, s, 3));
        }
        for (int input : outside(INPUTS)) {
            refusedOf(phase, "change with input " + input, want, x -> x.change(0, input, 2, 3));
        }
        for (int output : outside(4)) {
            refusedOf(phase, "change with output " + output, want, x -> x.change(0, 0, 2, output));
        }
    }

    /** Promise 16: without a suite no test is there. */
    private static void wrongBegins(Phase phase) {
        int tests = phase.made.get().look(4);
        for (int w : outside(tests)) {
            refused(phase, "begin(" + w + ")", Check.IAE, x -> x.begin(w));
        }
    }

    /** Promise 17: IllegalStateException is listed first, so without a test it is thrown for what is no output, too. */
    private static void wrongOutputs(Phase phase) {
        for (int output : outside(4)) {
            refused(phase, "give(" + output + ")", phase.suited ? Check.IAE : Check.ISE, x -> x.give(output));
        }
    }

    /** Promises 6, 10, 12, 13, 18: "IllegalStateException if it is not SEALED" */
    private static void beforeSeal(Phase phase) {
        refused(phase, "apart(0, 1)", Check.ISE, x -> x.apart(0, 1));
        refused(phase, "suite(0, 0)", Check.ISE, x -> x.suite(0, 0));
        refused(phase, "suite(1, 2), which would not fit", Check.ISE, x -> x.suite(1, 2));
        refusedOf(phase, "resize(1)", Check.ISE, x -> x.resize(1));
        refusedOf(phase, "resize(10)", Check.ISE, x -> x.resize(10));
        refusedOf(phase, "change(0, 0, 0, 3)", Check.ISE, x -> x.change(0, 0, 0, 3));
        refused(phase, "same()", Check.ISE, TestBench::same);
    }

    /** Promises 2, 3, 4: "IllegalStateException if it is SEALED"; promise 10: "if it does not FIT" */
    private static void whenSealed(Phase phase) {
        refusedOf(phase, "edge(0, 0, 0, 3)", Check.ISE, x -> x.edge(0, 0, 0, 3));
        refusedOf(phase, "edge(4, 2, 4, 3)", Check.ISE, x -> x.edge(4, 2, 4, 3));
        refusedOf(phase, "start(0)", Check.ISE, x -> x.start(0));
        refusedOf(phase, "start(4)", Check.ISE, x -> x.start(4));
        refused(phase, "seal()", Check.ISE, TestBench::seal);
        refused(phase, "suite(1, 2)", Check.UOE, x -> x.suite(1, 2));
        refused(phase, "suite(0, 2)", Check.UOE, x -> x.suite(0, 2));
    }

    /** Promises 14, 17: there is no suite and no test under way. */
    private static void withoutSuite(Phase phase) {
        refused(phase, "run()", Check.ISE, TestBench::run);
        refused(phase, "give(0)", Check.ISE, x -> x.give(0));
        refused(phase, "give(3)", Check.ISE, x -> x.give(3));
    }

    /** A call that answers NONE because there is none such is refused, too. */
    private static void answeredByNone(Phase phase) {
        for (int at : new int[] {-2, 99, Integer.MIN_VALUE, Integer.MAX_VALUE}) {
            refused(phase, "minimal(" + at + ")", TestBench.NONE, x -> x.minimal(at));
            refused(phase, "word(" + at + ")", TestBench.NONE, x -> x.word(at));
            refused(phase, "family(" + at + ", 0)", TestBench.NONE, x -> x.family(at, 0));
            refused(phase, "family(0, " + at + ")", TestBench.NONE, x -> x.family(0, at));
            refused(phase, "own(" + at + ", 0)", TestBench.NONE, x -> x.own(at, 0));
            refused(phase, "own(0, " + at + ")", TestBench.NONE, x -> x.own(0, at));
            refused(phase, "test(" + at + ", 0, false)", TestBench.NONE, x -> x.test(at, 0, false));
            refused(phase, "test(0, " + at + ", true)", TestBench.NONE, x -> x.test(0, at, true));
            refused(phase, "look(" + at + ")", TestBench.NONE, x -> x.look(at));
        }
    }

    private static List<Integer> read(TestBench x) {
        List<Integer> all = new ArrayList<>();
        for (int at = -1; at <= 8; at++) {
            all.add(x.look(at));
            all.add(x.minimal(at));
            all.add(x.word(at));
            for (int i = -1; i <= 5; i++) {
                all.add(x.family(at, i));
                all.add(x.own(at, i));
            }
        }
        all.add(x.failed());
        all.add(x.covered());
        return all;
    }

    private static List<Integer> readTests(TestBench x) {
        List<Integer> all = new ArrayList<>();
        for (int w = 0; w <= x.look(4); w++) {
            int length = x.test(w, -1, false);
            all.add(length);
            for (int i = 0; i < length; i++) {
                all.add(x.test(w, i, false));
                all.add(x.test(w, i, true));
            }
        }
        return all;
    }

    private static List<Integer> goOnByHand(TestBench x) {
        List<Integer> all = new ArrayList<>();
        for (int i = 1; i <= 9; i++) {
            int output = Math.max(0, x.test(HAND, i, true));
            all.add(Check.answer(() -> x.give(output)));
        }
        return all;
    }

    private static List<Integer> runAndCompare(TestBench x) {
        List<Integer> all = new ArrayList<>();
        all.add(Check.answer(x::same));
        addWord(all, x);
        all.add(Check.answer(x::run));
        all.add(x.failed());
        all.add(Check.answer(() -> x.suite(0, 1)));
        all.add(Check.answer(x::run));
        all.add(x.failed());
        return all;
    }

    private static List<Integer> sealAndCompare(TestBench x) {
        List<Integer> all = new ArrayList<>();
        all.add(Check.answer(x::seal));
        for (int s = 0; s < STATES; s++) {
            all.add(x.minimal(s));
            for (int t = 0; t < s; t++) {
                all.add(x.apart(s, t));
                addWord(all, x);
            }
        }
        all.add(x.same());
        all.add(x.suite(0, 0));
        for (int i = 0; i < x.test(HAND, -1, false); i++) {
            all.add(x.test(HAND, i, true));
        }
        return all;
    }

    private static List<Integer> makeSuite(TestBench x) {
        List<Integer> all = new ArrayList<>();
        Check.answer(x::seal);
        all.add(x.suite(1, 0));
        all.add(x.failed());
        all.add(Check.answer(() -> x.give(0)));
        all.addAll(readTests(x));
        all.add(x.covered());
        all.add(x.look(6));
        all.add(x.run());
        all.add(x.failed());
        return all;
    }

    private static void addWord(List<Integer> all, TestBench x) {
        for (int i = 0; i <= 6; i++) {
            all.add(x.word(i));
        }
    }
}
