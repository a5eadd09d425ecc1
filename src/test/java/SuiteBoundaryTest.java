/** The boundary cases that promises 10 to 20 name: each case, and the nearest one on the other side of the boundary. */
public final class SuiteBoundaryTest {
    private SuiteBoundaryTest() {
    }

    public static void main(String[] args) {
        suiteMethods();
        suiteMore();
        suiteBeforeSeal();
        suiteThatDoesNotFit();
        suiteInPlaceOfAnother();
        suiteInPlaceOfARefusedOne();
        testNumbers();
        testInputs();
        testWithoutSuite();
        resizeSizes();
        resizeBeforeSeal();
        resizeKeepsStates();
        resizeAddsStates();
        resizeTakesStates();
        changeBeforeSeal();
        changeStates();
        changeInputs();
        changeOutputs();
        changeAfterResize();
        runWithoutSuite();
        runFirstAndLast();
        runOfASmallerSuite();
        failedAtFirst();
        failedPlaces();
        failedBehindANewSuite();
        beginNumbers();
        beginWithoutSuite();
        beginAnew();
        giveOutputs();
        giveTheLast();
        giveWhatIsNotExpected();
        giveWithoutTest();
        giveBehindANewSuite();
        sameBeforeSeal();
        sameIfThereIsNone();
        sameAtItsEnds();
        coveredWithoutSuite();
        coveredWithSuite();
        lookBeforeSeal();
        lookWithoutSuite();
        lookAtNothing();
        Check.finish("SuiteBoundaryTest");
    }

    /** Its tests are 0001, 0011, 011, 11 with the outputs 0002, 0021, 010, 00. */
    private static TestBench suited() {
        TestBench x = Examples.ladder();
        x.suite(0, 0);
        return x;
    }

    /** Promise 10: "IllegalArgumentException if there is no such method" */
    private static void suiteMethods() {
        TestBench x = Examples.fork();
        Check.due("suite(-1, 0)", Check.IAE, () -> x.suite(-1, 0));
        Check.due("suite(0, 0)", 8, () -> x.suite(0, 0));
        Check.due("suite(1, 0)", 4, () -> x.suite(1, 0));
        Check.due("suite(2, 0)", Check.IAE, () -> x.suite(2, 0));
        for (int far : Examples.FAR) {
            Check.due("suite(" + far + ", 0)", Check.IAE, () -> x.suite(far, 0));
        }
        Check.due("the suite is still the latest one", 4, x.look(4));
    }

    /** Promise 10: "IllegalArgumentException if there is no such ... m" */
    private static void suiteMore() {
        TestBench x = Examples.fork();
        for (int method = 0; method <= 1; method++) {
            int of = method;
            Check.due("suite(" + of + ", -1)", Check.IAE, () -> x.suite(of, -1));
            Check.due("suite(" + of + ", 0)", 8 >> of, () -> x.suite(of, 0));
            Check.due("suite(" + of + ", 2)", 32 >> of, () -> x.suite(of, 2));
            Check.due("suite(" + of + ", 3)", Check.IAE, () -> x.suite(of, 3));
            for (int far : Examples.FAR) {
                Check.due("suite(" + of + ", " + far + ")", Check.IAE, () -> x.suite(of, far));
            }
        }
        Check.due("the suite is still the latest one", 16, x.look(4));
    }

    /** Promise 10: "IllegalStateException if it is not SEALED" */
    private static void suiteBeforeSeal() {
        TestBench x = Examples.open(3, 2, Examples.FORK);
        Check.due("suite(0, 0) before seal", Check.ISE, () -> x.suite(0, 0));
        Check.due("suite(2, 0) before seal: the first one listed", Check.IAE, () -> x.suite(2, 0));
        Check.due("suite(0, 3) before seal: the first one listed", Check.IAE, () -> x.suite(0, 3));
        x.seal();
        Check.due("suite(0, 0) behind seal", 8, () -> x.suite(0, 0));
        TestBench large = Examples.open(5, 3, Examples.ONE_TOO_MANY);
        Check.due("a suite that would not fit, before seal: the first one listed", Check.ISE, () -> large.suite(1, 2));
    }

    /** Promise 10: "UnsupportedOperationException if it does not FIT" */
    private static void suiteThatDoesNotFit() {
        TestBench fits = Examples.sealed(5, 3, Examples.JUST_FITS);
        fits.suite(1, 2);
        Check.due("800 beginnings", 800, fits.look(6));
        TestBench x = Examples.sealed(5, 3, Examples.ONE_TOO_MANY);
        Check.due("801 beginnings", Check.UOE, () -> x.suite(1, 2));
        Check.due("far more, by method 0", Check.UOE, () -> x.suite(0, 2));
        Check.due("no such method, with an m that would not fit", Check.IAE, () -> x.suite(2, 2));
        Check.dueText("none of them is there", "5 3 1 5 0 5 0", Examples.looks(x));
        TestBench full = Examples.open(8, 3, Examples.RING);
        full.seal();
        Check.due("eight states with seven words", Check.UOE, () -> full.suite(0, 2));
        Check.due("by method 1", Check.UOE, () -> full.suite(1, 2));
        Check.due("nothing is there to run", Check.ISE, full::run);
    }

    /** Promise 10: "A suite is made, in place of another one" */
    private static void suiteInPlaceOfAnother() {
        TestBench x = Examples.fork();
        x.suite(0, 2);
        x.suite(1, 0);
        Check.dueText("a smaller one in place of a larger one", "000 010 101 111", Examples.inputs(x));
        Check.due("test 4 is gone", TestBench.NONE, x.test(4, -1, false));
        Check.due("begin(4) too", Check.IAE, () -> x.begin(4));
        Check.due("its beginnings", 11, x.look(6));
        x.suite(0, 0);
        Check.dueText("a larger one again", "000 001 010 011 100 101 110 111", Examples.inputs(x));
        x.suite(0, 0);
        Check.dueText("the same one again", "000 001 010 011 100 101 110 111", Examples.inputs(x));
    }

    /** "What throws ... changes nothing": the suite from before is whole, and the next one is made as if nothing had been. */
    private static void suiteInPlaceOfARefusedOne() {
        TestBench x = Examples.sealed(5, 3, Examples.ONE_TOO_MANY);
        int tests = x.suite(1, 0);
        String before = Examples.outputs(x);
        Check.due("refused", Check.UOE, () -> x.suite(1, 2));
        Check.due("refused again", Check.UOE, () -> x.suite(0, 2));
        Check.dueText("the tests stay", before, Examples.outputs(x));
        Check.due("so does their number", tests, x.look(4));
        TestBench plain = Examples.sealed(5, 3, Examples.ONE_TOO_MANY);
        Check.due("the next suite", plain.suite(0, 0), x.suite(0, 0));
        Check.due("its beginnings", plain.look(6), x.look(6));
        Check.dueText("its first test", firstTest(plain), firstTest(x));
    }

    private static String firstTest(TestBench x) {
        StringBuilder text = new StringBuilder();
        for (int i = 0; i < x.test(0, -1, false); i++) {
            text.append(x.test(0, i, false)).append(x.test(0, i, true));
        }
        return text.toString();
    }

    /** Promise 11: "NONE if there is none such": of tests. */
    private static void testNumbers() {
        TestBench x = suited();
        for (boolean expected : new boolean[] {false, true}) {
            Check.due("test(-1, -1)", TestBench.NONE, x.test(-1, -1, expected));
            Check.due("test(-1, 0)", TestBench.NONE, x.test(-1, 0, expected));
            Check.due("test(0, -1)", 4, x.test(0, -1, expected));
            Check.due("test(3, -1)", 2, x.test(3, -1, expected));
            Check.due("test(4, -1)", TestBench.NONE, x.test(4, -1, expected));
            Check.due("test(4, 0)", TestBench.NONE, x.test(4, 0, expected));
            for (int far : Examples.FAR) {
                Check.due("test(" + far + ", -1)", TestBench.NONE, x.test(far, -1, expected));
                Check.due("test(" + far + ", 0)", TestBench.NONE, x.test(far, 0, expected));
            }
        }
    }

    /** Promise 11: "how long it is, if i is -1. NONE if there is none such": of inputs. */
    private static void testInputs() {
        TestBench x = suited();
        Check.due("test(2, 0, false)", 0, x.test(2, 0, false));
        Check.due("test(2, 2, false)", 1, x.test(2, 2, false));
        Check.due("test(2, 0, true)", 0, x.test(2, 0, true));
        Check.due("test(2, 1, true)", 1, x.test(2, 1, true));
        Check.due("test(2, 2, true)", 0, x.test(2, 2, true));
        for (boolean expected : new boolean[] {false, true}) {
            Check.due("test(2, -2)", TestBench.NONE, x.test(2, -2, expected));
            Check.due("test(2, -1)", 3, x.test(2, -1, expected));
            Check.due("test(2, 3)", TestBench.NONE, x.test(2, 3, expected));
            for (int far : Examples.FAR) {
                Check.due("test(2, " + far + ")", TestBench.NONE, x.test(2, far, expected));
            }
        }
        x.change(1, 1, 0, 3);
        Check.due("expected is the specification's output", 1, x.test(2, 1, true));
    }

    /** Promise 11, the same words: no suite has no tests. */
    private static void testWithoutSuite() {
        TestBench x = Examples.open(5, 2, Examples.LADDER);
        Check.due("test(0, -1) before seal", TestBench.NONE, x.test(0, -1, false));
        x.seal();
        Check.due("test(0, -1) without a suite", TestBench.NONE, x.test(0, -1, false));
        Check.due("test(0, 0) without a suite", TestBench.NONE, x.test(0, 0, true));
        x.suite(0, 0);
        Check.due("test(0, -1) with one", 4, x.test(0, -1, false));
    }

    /** Promise 12: "IllegalArgumentException if n is not 1 .. 10" */
    private static void resizeSizes() {
        TestBench x = Examples.ladder();
        Check.dueOf("resize(0)", Check.IAE, () -> x.resize(0));
        Check.dueOf("resize(-1)", Check.IAE, () -> x.resize(-1));
        Check.due("it stays", 3, x.look(5));
        Check.dueOf("resize(1)", 0, () -> x.resize(1));
        Check.due("one state", 1, x.look(5));
        Check.dueOf("resize(10)", 0, () -> x.resize(10));
        Check.due("ten states", 10, x.look(5));
        Check.dueOf("resize(11)", Check.IAE, () -> x.resize(11));
        for (int far : Examples.FAR) {
            Check.dueOf("resize(" + far + ")", Check.IAE, () -> x.resize(far));
        }
        Check.due("it stays at ten", 10, x.look(5));
    }

    /** Promise 12: "IllegalStateException if it is not SEALED" */
    private static void resizeBeforeSeal() {
        TestBench x = Examples.open(5, 2, Examples.LADDER);
        Check.dueOf("resize(1) before seal", Check.ISE, () -> x.resize(1));
        Check.dueOf("resize(10) before seal", Check.ISE, () -> x.resize(10));
        Check.dueOf("resize(0) before seal: the first one listed", Check.IAE, () -> x.resize(0));
        Check.dueOf("resize(11) before seal: the first one listed", Check.IAE, () -> x.resize(11));
        x.seal();
        Check.due("it is the minimal machine", 3, x.look(5));
        Check.dueOf("resize(10) behind seal", 0, () -> x.resize(10));
    }

    /** Promise 12: "those that it had stay" */
    private static void resizeKeepsStates() {
        TestBench x = Examples.ladder();
        x.change(2, 1, 1, 3);
        x.resize(3);
        Check.due("the same size", 3, x.same());
        x.resize(10);
        Check.due("more states", 3, x.same());
        x.resize(3);
        Check.due("the old size again", 3, x.same());
        x.change(2, 1, 1, 2);
        Check.due("all else is as it was", 0, x.same());
    }

    /** Promise 12: "a new one is its own next state with output 0" */
    private static void resizeAddsStates() {
        TestBench x = Examples.sealed(1, 2, new int[][] {{0, 0, 0, 1}});
        x.resize(10);
        for (int s = 1; s <= 9; s++) {
            x.change(0, 0, s, 1);
            Check.due("output 0 of state " + s, 2, x.same());
            Check.dueText("with input 0", "00", Examples.word(x));
            x.change(s, 0, s, 1);
            Check.due("state " + s + " is its own next state", 0, x.same());
        }
        x.resize(9);
        x.resize(10);
        x.change(0, 0, 9, 1);
        Check.due("a state that comes again is a new one", 2, x.same());
        x.change(0, 0, 8, 1);
        Check.due("one that stayed is the old one", 0, x.same());
    }

    /** Promise 12: "next states that are none any more become 0" */
    private static void resizeTakesStates() {
        // A wheel that is cut to n states comes to its 1 again after n inputs, no sooner and no later.
        for (int n = 1; n <= 8; n++) {
            TestBench x = Examples.sealed(8, 1, Examples.WHEEL);
            x.resize(n);
            Check.due("a wheel of " + n + " states", n == 8 ? 0 : n + 1, x.same());
        }
        TestBench y = Examples.sealed(8, 1, Examples.ROW);
        y.change(0, 0, 3, 2);
        y.resize(3);
        y.suite(0, 0);
        Check.due("the output stays", 0, y.run());
        Check.due("at the first place", 0, y.failed());
        TestBench cut = new TestBench(3, 2);
        cut.edge(0, 0, 1, 0);
        cut.edge(1, 0, 2, 1);
        cut.edge(2, 0, 0, 2);
        cut.edge(2, 1, 1, 3);
        cut.seal();
        cut.resize(2);
        // Row 1 leads to state 0 now, with its old output.
        cut.resize(3);
        Check.due("the next state became 0 for good", 3, cut.same());
        Check.dueText("by what state 0 gives there", "000", Examples.word(cut));
        cut.change(1, 0, 2, 1);
        cut.change(2, 0, 0, 2);
        cut.change(2, 1, 1, 3);
        Check.due("nothing else was touched", 0, cut.same());
    }

    /** Promise 13: "IllegalStateException if it is not SEALED", listed first. */
    private static void changeBeforeSeal() {
        TestBench x = Examples.open(5, 2, Examples.LADDER);
        Check.dueOf("change(0, 0, 0, 0) before seal", Check.ISE, () -> x.change(0, 0, 0, 0));
        int[][] wrong = {{-1, 0, 0, 0}, {5, 0, 0, 0}, {0, -1, 0, 0}, {0, 2, 0, 0}, {0, 0, -1, 0}, {0, 0, 5, 0}, {0, 0, 0, -1}, {0, 0, 0, 4}};
        for (int[] c : wrong) {
            Check.dueOf("a wrong change before seal: the first one listed", Check.ISE, () -> x.change(c[0], c[1], c[2], c[3]));
        }
        x.seal();
        Check.due("the implementation is the minimal machine", 0, x.same());
        Check.dueOf("change(0, 0, 0, 0) behind seal", 0, () -> x.change(0, 0, 0, 0));
    }

    private static void changeIs(String name, int want, int... c) {
        TestBench x = Examples.ladder();
        Check.dueOf(name + " of change", want, () -> x.change(c[0], c[1], c[2], c[3]));
        if (want != 0) {
            Check.due(name + " of change changes nothing", 0, x.same());
        }
    }

    /** Promise 13: "IllegalArgumentException if there are no such states": those of the implementation. */
    private static void changeStates() {
        changeIs("state -1", Check.IAE, -1, 0, 0, 3);
        changeIs("state 0", 0, 0, 0, 0, 3);
        changeIs("state 2", 0, 2, 0, 0, 3);
        changeIs("state 3", Check.IAE, 3, 0, 0, 3);
        changeIs("next -1", Check.IAE, 0, 0, -1, 3);
        changeIs("next 0", 0, 0, 0, 0, 3);
        changeIs("next 2", 0, 0, 0, 2, 3);
        changeIs("next 3", Check.IAE, 0, 0, 3, 3);
        for (int far : Examples.FAR) {
            changeIs("state " + far, Check.IAE, far, 0, 0, 3);
            changeIs("next " + far, Check.IAE, 0, 0, far, 3);
        }
    }

    /** Promise 13: no such "input" */
    private static void changeInputs() {
        changeIs("input -1", Check.IAE, 1, -1, 0, 3);
        changeIs("input 0", 0, 1, 0, 0, 3);
        changeIs("input 1", 0, 1, 1, 0, 3);
        changeIs("input 2", Check.IAE, 1, 2, 0, 3);
        for (int far : Examples.FAR) {
            changeIs("input " + far, Check.IAE, 1, far, 0, 3);
        }
    }

    /** Promise 13: no such "output" */
    private static void changeOutputs() {
        changeIs("output -1", Check.IAE, 1, 0, 0, -1);
        changeIs("output 0", 0, 1, 0, 0, 0);
        changeIs("output 3", 0, 1, 0, 0, 3);
        changeIs("output 4", Check.IAE, 1, 0, 0, 4);
        for (int far : Examples.FAR) {
            changeIs("output " + far, Check.IAE, 1, 0, 0, far);
        }
    }

    /** Promise 13, the same words: states come and go with resize(). */
    private static void changeAfterResize() {
        TestBench x = Examples.ladder();
        x.resize(4);
        Check.dueOf("the new state 3", 0, () -> x.change(3, 0, 3, 0));
        Check.dueOf("to the new state 3", 0, () -> x.change(3, 1, 3, 0));
        Check.dueOf("state 4", Check.IAE, () -> x.change(4, 0, 0, 0));
        x.resize(2);
        Check.dueOf("the last state left", 0, () -> x.change(1, 0, 1, 0));
        Check.dueOf("a state that is gone", Check.IAE, () -> x.change(2, 0, 0, 0));
        Check.dueOf("to a state that is gone", Check.IAE, () -> x.change(0, 0, 2, 0));
    }

    /** Promise 14: "IllegalStateException if there is no suite" */
    private static void runWithoutSuite() {
        TestBench x = Examples.open(5, 3, Examples.ONE_TOO_MANY);
        Check.due("run() before seal", Check.ISE, x::run);
        x.seal();
        Check.due("run() without a suite", Check.ISE, x::run);
        Check.due("a suite that does not fit", Check.UOE, () -> x.suite(1, 2));
        Check.due("is no suite", Check.ISE, x::run);
        x.suite(0, 0);
        Check.due("run() with a suite", TestBench.NONE, x::run);
        Check.due("another one that does not fit", Check.UOE, () -> x.suite(1, 2));
        Check.due("leaves that one", TestBench.NONE, x::run);
    }

    /** Promise 14: "the number of the first test that FAILS; NONE if it PASSES" */
    private static void runFirstAndLast() {
        TestBench x = suited();
        Check.due("none fails", TestBench.NONE, x.run());
        x.change(0, 1, 1, 0);
        Check.due("only the last test fails", 3, x.run());
        x.change(2, 0, 1, 0);
        Check.due("the first one, too", 0, x.run());
        x.change(0, 1, 0, 0);
        x.change(2, 0, 2, 0);
        x.change(2, 1, 0, 2);
        Check.due("only test 1 fails", 1, x.run());
        x.change(2, 1, 1, 2);
        Check.due("none fails again", TestBench.NONE, x.run());
        TestBench least = new TestBench(1, 1);
        least.seal();
        least.suite(1, 0);
        Check.due("one test of one input passes", TestBench.NONE, least.run());
        least.change(0, 0, 0, 3);
        Check.due("one test of one input fails", 0, least.run());
        Check.due("at its only place", 0, least.failed());
    }

    /** Promises 10 and 14: nothing is left of a larger suite that failed. */
    private static void runOfASmallerSuite() {
        TestBench x = Examples.fork();
        x.change(1, 0, 1, 3);
        x.change(2, 1, 2, 3);
        x.suite(0, 2);
        Check.due("a suite of 32 tests fails", 0, x.run());
        x.suite(0, 1);
        Check.due("one of 16 fails, too", 0, x.run());
        x.change(1, 0, 1, 1);
        x.change(2, 1, 2, 1);
        for (int method = 0; method <= 1; method++) {
            x.suite(method, 0);
            Check.due("suite(" + method + ", 0) is passed", TestBench.NONE, x.run());
            Check.due("failed() behind it", TestBench.NONE, x.failed());
        }
    }

    /** Promise 15: "NONE if it found none, or there was none" */
    private static void failedAtFirst() {
        TestBench x = Examples.open(5, 2, Examples.LADDER);
        Check.due("failed() before seal", TestBench.NONE, x.failed());
        x.seal();
        x.change(0, 0, 0, 3);
        Check.due("run() without a suite", Check.ISE, x::run);
        Check.due("failed() behind a refused run()", TestBench.NONE, x.failed());
        x.suite(0, 0);
        Check.due("failed() before the first run()", TestBench.NONE, x.failed());
        x.run();
        Check.due("failed() behind a run() that found one", 0, x.failed());
        x.change(0, 0, 1, 0);
        Check.due("failed() until the next run()", 0, x.failed());
        x.run();
        Check.due("failed() behind a run() that found none", TestBench.NONE, x.failed());
    }

    /** Promise 15: "At which place the test failed": from the first to the last one. */
    private static void failedPlaces() {
        TestBench x = Examples.sealed(8, 1, Examples.ROW);
        x.suite(0, 2);
        // Each state of the row is first met at the place of its own number, the last one until place 16.
        for (int s = 0; s <= 7; s++) {
            x.change(s, 0, Math.min(7, s + 1), 3);
            Check.due("run() with a fault at " + s, 0, x.run());
            Check.due("failed() with a fault at " + s, s, x.failed());
            x.change(s, 0, Math.min(7, s + 1), s == 7 ? 1 : 0);
        }
        x.resize(10);
        x.change(7, 0, 8, 1);
        x.change(8, 0, 9, 1);
        x.change(9, 0, 9, 1);
        Check.due("more states that do the same", TestBench.NONE, x.run());
        Check.due("failed() then", TestBench.NONE, x.failed());
        x.change(9, 0, 9, 0);
        Check.due("the last one does not", 0, x.run());
        Check.due("failed() then", 9, x.failed());
        TestBench late = suited();
        late.change(2, 1, 0, 2);
        late.run();
        Check.due("failed() at the last place of test 1", 3, late.failed());
    }

    /** Promise 15: "(also behind a new suite)" */
    private static void failedBehindANewSuite() {
        TestBench x = suited();
        x.change(0, 1, 1, 0);
        x.run();
        Check.due("failed()", 1, x.failed());
        x.suite(1, 2);
        Check.due("failed() behind a new suite", 1, x.failed());
        x.suite(0, 0);
        Check.due("failed() behind another new suite", 1, x.failed());
        x.change(0, 1, 0, 0);
        Check.due("run() on that", TestBench.NONE, x.run());
        Check.due("failed() behind it", TestBench.NONE, x.failed());
    }

    /** Promise 16: "IllegalArgumentException if there is no such test" */
    private static void beginNumbers() {
        TestBench x = suited();
        Check.due("begin(-1)", Check.IAE, () -> x.begin(-1));
        Check.due("begin(4)", Check.IAE, () -> x.begin(4));
        for (int far : Examples.FAR) {
            Check.due("begin(" + far + ")", Check.IAE, () -> x.begin(far));
        }
        Check.due("no test is under way by that", Check.ISE, () -> x.give(0));
        Check.due("begin(0)", 0, () -> x.begin(0));
        Check.due("begin(3)", 1, () -> x.begin(3));
        Check.due("begin(4) then", Check.IAE, () -> x.begin(4));
        Check.due("test 3 is still under way", 1, x.give(0));
        Check.due("and ends", TestBench.NONE, x.give(0));
    }

    /** Promise 16, the same words: without a suite there is no test. */
    private static void beginWithoutSuite() {
        TestBench x = Examples.open(5, 3, Examples.ONE_TOO_MANY);
        Check.due("begin(0) before seal", Check.IAE, () -> x.begin(0));
        x.seal();
        Check.due("begin(0) without a suite", Check.IAE, () -> x.begin(0));
        Check.due("a suite that does not fit", Check.UOE, () -> x.suite(1, 2));
        Check.due("begin(0) behind it", Check.IAE, () -> x.begin(0));
        x.suite(0, 0);
        Check.due("begin(0) with a suite", 0, () -> x.begin(0));
    }

    /** Promise 16: "its first input": also when a test is under way. */
    private static void beginAnew() {
        TestBench x = suited();
        x.begin(1);
        x.give(0);
        x.give(0);
        Check.due("begin(1) in its midst", 0, x.begin(1));
        Check.due("it is at its first place", 0, x.give(0));
        Check.due("and goes on", 1, x.give(0));
        Check.due("and on", 1, x.give(2));
        Check.due("to its end", TestBench.NONE, x.give(1));
        Check.due("begin(1) behind its end", 0, x.begin(1));
        Check.due("it is at its first place", 0, x.give(0));
    }

    /** Promise 17: "IllegalArgumentException if it is no output" */
    private static void giveOutputs() {
        TestBench x = Examples.sealed(1, 1, new int[][] {{0, 0, 0, 3}});
        x.suite(0, 0);
        x.begin(0);
        Check.due("give(-1)", Check.IAE, () -> x.give(-1));
        Check.due("give(4)", Check.IAE, () -> x.give(4));
        for (int far : Examples.FAR) {
            Check.due("give(" + far + ")", Check.IAE, () -> x.give(far));
        }
        Check.due("give(3), which is due", TestBench.NONE, x.give(3));
        x.begin(0);
        Check.due("give(0), an output but not the one due", -2, () -> x.give(0));
    }

    /** Promise 17: "NONE if that was the last one" */
    private static void giveTheLast() {
        TestBench least = new TestBench(1, 1);
        least.seal();
        least.suite(0, 0);
        Check.due("a test of one input begins", 0, least.begin(0));
        Check.due("and ends at once", TestBench.NONE, least.give(0));
        Check.due("give behind it", Check.ISE, () -> least.give(0));
        least.suite(0, 1);
        least.begin(0);
        Check.due("a test of two inputs goes on", 0, least.give(0));
        Check.due("and ends", TestBench.NONE, least.give(0));
        Check.due("give behind it", Check.ISE, () -> least.give(0));
    }

    /** Promise 17: "-2 if it is not what was expected, and the test is over then, too" */
    private static void giveWhatIsNotExpected() {
        TestBench x = suited();
        x.begin(1);
        Check.due("wrong at the first place", -2, x.give(1));
        Check.due("the test is over", Check.ISE, () -> x.give(0));
        x.begin(1);
        x.give(0);
        x.give(0);
        x.give(2);
        Check.due("wrong at the last place", -2, x.give(2));
        Check.due("the test is over", Check.ISE, () -> x.give(1));
        Check.due("another one can begin", 0, x.begin(1));
        x.change(0, 0, 1, 3);
        Check.due("the implementation has no say in it", 0, x.give(0));
        Check.due("failed() is of run() alone", TestBench.NONE, x.failed());
    }

    /** Promise 17: "IllegalStateException if no test is under way", listed first. */
    private static void giveWithoutTest() {
        TestBench x = Examples.open(5, 2, Examples.LADDER);
        giveRefused("before seal", x);
        x.seal();
        giveRefused("without a suite", x);
        x.suite(0, 0);
        giveRefused("before begin", x);
        Check.due("begin(4)", Check.IAE, () -> x.begin(4));
        giveRefused("behind a refused begin", x);
        x.begin(3);
        Check.due("an output that is none, with a test under way", Check.IAE, () -> x.give(4));
        Check.due("give(0) with a test under way", 1, () -> x.give(0));
        x.give(0);
        giveRefused("behind the last input", x);
        x.begin(3);
        x.give(3);
        giveRefused("behind a wrong output", x);
    }

    private static void giveRefused(String when, TestBench x) {
        for (int output = -1; output <= 4; output++) {
            int given = output;
            Check.due("give(" + output + ") " + when, Check.ISE, () -> x.give(given));
        }
    }

    /** Promise 17: "(a new suite ends one)": a refused one does not, nor does any other call. */
    private static void giveBehindANewSuite() {
        TestBench x = suited();
        x.begin(0);
        x.suite(0, 0);
        Check.due("the same suite made anew ends the test", Check.ISE, () -> x.give(0));
        TestBench y = Examples.sealed(5, 3, Examples.ONE_TOO_MANY);
        y.suite(0, 0);
        y.begin(0);
        Check.due("a suite that does not fit", Check.UOE, () -> y.suite(1, 2));
        Check.due("no such method", Check.IAE, () -> y.suite(2, 0));
        Check.due("no such m", Check.IAE, () -> y.suite(0, 3));
        y.run();
        y.same();
        y.apart(0, 1);
        y.resize(1);
        y.change(0, 0, 0, 3);
        y.run();
        Check.due("the test goes on", y.test(0, 1, false), () -> y.give(y.test(0, 0, true)));
    }

    /** Promise 18: "IllegalStateException if it is not SEALED" */
    private static void sameBeforeSeal() {
        TestBench x = Examples.open(5, 2, Examples.LADDER);
        Check.due("same() before seal", Check.ISE, x::same);
        x.seal();
        Check.due("same() behind seal", 0, x::same);
    }

    /** Promise 18: "0 if there is none" */
    private static void sameIfThereIsNone() {
        TestBench x = Examples.ladder();
        x.resize(10);
        x.change(9, 0, 0, 3);
        Check.due("a fault that is not reached", 0, x.same());
        Check.dueText("no word", "", Examples.word(x));
        x.change(2, 0, 9, 0);
        Check.due("the same fault, reached", 4, x.same());
        Check.dueText("by this word", "0000", Examples.word(x));
        x.change(9, 0, 2, 0);
        x.change(9, 1, 1, 2);
        Check.due("a state more that does the same", 0, x.same());
        Check.dueText("no word again", "", Examples.word(x));
    }

    /** Promise 18: "How long the least word is": from one input to 17, the most that 8 and 10 states can need. */
    private static void sameAtItsEnds() {
        TestBench x = Examples.sealed(8, 1, Examples.ROW);
        x.change(0, 0, 1, 1);
        Check.due("the least there is", 1, x.same());
        Check.dueText("its word", "0", Examples.word(x));
        TestBench wheel = Examples.sealed(8, 1, Examples.WHEEL);
        wheel.resize(10);
        wheel.change(7, 0, 8, 0);
        Check.due("nine states", 9, wheel.same());
        wheel.change(8, 0, 9, 1);
        Check.due("ten states", 17, wheel.same());
        Check.dueText("its word", "00000000000000000", Examples.word(wheel));
    }

    /** Promise 19: "0 without a suite" */
    private static void coveredWithoutSuite() {
        TestBench x = Examples.open(5, 3, Examples.ONE_TOO_MANY);
        Check.due("covered() before seal", 0, x.covered());
        x.seal();
        Check.due("covered() without a suite", 0, x.covered());
        Check.due("a suite that does not fit", Check.UOE, () -> x.suite(1, 2));
        Check.due("covered() behind it", 0, x.covered());
        x.suite(0, 0);
        Check.due("covered() with a suite", 15, x.covered());
        Check.due("another one that does not fit", Check.UOE, () -> x.suite(1, 2));
        Check.due("covered() behind that", 15, x.covered());
    }

    /** Promise 19: "How many of the minimal machine's transitions": from one to all of 8 states and 3 inputs. */
    private static void coveredWithSuite() {
        TestBench least = new TestBench(1, 1);
        least.seal();
        least.suite(0, 0);
        Check.due("one state, one input", 1, least.covered());
        TestBench most = Examples.open(8, 3, Examples.RING);
        most.seal();
        most.suite(1, 0);
        Check.due("eight states, three inputs", 24, most.covered());
        TestBench x = suited();
        Check.due("three minimal states of five, two inputs", 6, x.covered());
        x.resize(10);
        Check.due("the implementation has no say in it", 6, x.covered());
    }

    /** Promise 20: "minimal states (0 if it is not)", "states of the implementation (0 if not SEALED)" */
    private static void lookBeforeSeal() {
        TestBench x = Examples.open(5, 2, Examples.LADDER);
        Check.dueText("before seal", "5 2 0 0 0 0 0", Examples.looks(x));
        x.seal();
        Check.dueText("behind seal", "5 2 1 3 0 3 0", Examples.looks(x));
        x.resize(10);
        Check.dueText("with an implementation of ten states", "5 2 1 3 0 10 0", Examples.looks(x));
        x.resize(1);
        Check.dueText("with an implementation of one state", "5 2 1 3 0 1 0", Examples.looks(x));
    }

    /** Promise 20: "tests (0 without a suite)", "the different beginnings of the suite's words (0 without one)" */
    private static void lookWithoutSuite() {
        TestBench x = Examples.sealed(5, 3, Examples.ONE_TOO_MANY);
        Check.dueText("without a suite", "5 3 1 5 0 5 0", Examples.looks(x));
        Check.due("a suite that does not fit", Check.UOE, () -> x.suite(1, 2));
        Check.dueText("is none", "5 3 1 5 0 5 0", Examples.looks(x));
        TestBench y = suited();
        Check.dueText("with one", "5 2 1 3 4 3 11", Examples.looks(y));
        TestBench least = new TestBench(1, 1);
        least.seal();
        least.suite(0, 0);
        Check.dueText("with the least one", "1 1 1 1 1 1 2", Examples.looks(least));
    }

    /** Promise 20: "NONE for any other which" */
    private static void lookAtNothing() {
        for (TestBench x : new TestBench[] {Examples.open(5, 2, Examples.LADDER), Examples.ladder(), suited()}) {
            Check.due("look(-1)", TestBench.NONE, x.look(-1));
            Check.due("look(7)", TestBench.NONE, x.look(7));
            for (int far : Examples.FAR) {
                Check.due("look(" + far + ")", TestBench.NONE, x.look(far));
            }
        }
        Check.due("look(0)", 5, suited().look(0));
        Check.due("look(6)", 11, suited().look(6));
    }
}
