/** The boundary cases that promises 1 to 9 name: each case, and the nearest one on the other side of the boundary. */
public final class SpecificationBoundaryTest {
    private SpecificationBoundaryTest() {
    }

    public static void main(String[] args) {
        sizes();
        sizesHoldForTheCalls();
        newObject();
        edgeStates();
        edgeNexts();
        edgeInputs();
        edgeOutputs();
        edgeOnlyBeforeSeal();
        startStates();
        startOnlyBeforeSeal();
        sealOnce();
        sealSizes();
        minimalOfNoState();
        minimalOfNoReachedState();
        minimalBeforeSeal();
        apartOfAlikeStates();
        apartNeedNotBeReached();
        apartOfNoStates();
        apartBeforeSeal();
        wordAtFirst();
        wordEnds();
        wordIsTheLatest();
        familyWords();
        familyInputs();
        familyBeforeSeal();
        ownStates();
        ownNumbers();
        ownBeforeSeal();
        Check.finish("SpecificationBoundaryTest");
    }

    /** Promise 1: "n states (at least 1, at most 8)", "k inputs (at least 1, at most 3)" */
    private static void sizes() {
        int[][] states = {{-1, 1}, {0, 1}, {1, 1}, {2, 2}, {7, 7}, {8, 8}, {9, 8}, {10, 8}, {Integer.MIN_VALUE, 1}, {Integer.MAX_VALUE, 8}};
        for (int[] n : states) {
            Check.due("states of new TestBench(" + n[0] + ", 2)", n[1], new TestBench(n[0], 2).look(0));
        }
        int[][] inputs = {{-1, 1}, {0, 1}, {1, 1}, {2, 2}, {3, 3}, {4, 3}, {5, 3}, {Integer.MIN_VALUE, 1}, {Integer.MAX_VALUE, 3}};
        for (int[] k : inputs) {
            Check.due("inputs of new TestBench(2, " + k[0] + ")", k[1], new TestBench(2, k[0]).look(1));
        }
    }

    /** Promise 1, the same words: the calls know just these states and inputs. */
    private static void sizesHoldForTheCalls() {
        int[][] made = {{0, 0, 1, 1}, {1, 1, 1, 1}, {8, 3, 8, 3}, {9, 4, 8, 3}};
        for (int[] m : made) {
            String name = "new TestBench(" + m[0] + ", " + m[1] + "): ";
            TestBench x = new TestBench(m[0], m[1]);
            Check.dueOf(name + "its last state and input", 0, () -> x.edge(m[2] - 1, m[3] - 1, m[2] - 1, 1));
            Check.dueOf(name + "a state more", Check.IAE, () -> x.edge(m[2], m[3] - 1, m[2] - 1, 1));
            Check.dueOf(name + "an input more", Check.IAE, () -> x.edge(m[2] - 1, m[3], m[2] - 1, 1));
            Check.due(name + "it can be sealed", 1, x.seal());
        }
    }

    /** Promise 1: "start 0", "not sealed" */
    private static void newObject() {
        TestBench x = Examples.open(2, 1, new int[][] {{0, 0, 0, 0}, {1, 0, 1, 1}});
        Check.dueText("a new object", "2 1 0 0 0 0 0", Examples.looks(x));
        Check.due("no run has failed", TestBench.NONE, x.failed());
        Check.due("nothing is covered", 0, x.covered());
        x.seal();
        Check.dueText("the start is 0", "0 -1", Examples.numbers(x));
    }

    private static void edgeIs(String name, int want, int... e) {
        TestBench x = new TestBench(3, 2);
        Check.dueOf(name + " of edge", want, () -> x.edge(e[0], e[1], e[2], e[3]));
        TestBench sealed = new TestBench(3, 2);
        sealed.seal();
        int wantSealed = want == 0 ? Check.ISE : want;
        Check.dueOf(name + " of edge when sealed", wantSealed, () -> sealed.edge(e[0], e[1], e[2], e[3]));
    }

    /** Promise 2: "IllegalArgumentException if there are no such states": the one that it goes from. */
    private static void edgeStates() {
        edgeIs("state -1", Check.IAE, -1, 0, 0, 0);
        edgeIs("state 0", 0, 0, 0, 0, 0);
        edgeIs("state 2", 0, 2, 0, 0, 0);
        edgeIs("state 3", Check.IAE, 3, 0, 0, 0);
        for (int far : Examples.FAR) {
            edgeIs("state " + far, Check.IAE, far, 0, 0, 0);
        }
        int[][] seen = {{0, 0, 1, 0}, {1, 0, 2, 0}, {2, 0, 2, 1}};
        Check.due("an edge of the last state counts", 3, Examples.open(3, 2, seen).seal());
    }

    /** Promise 2, the same words: the next one. */
    private static void edgeNexts() {
        edgeIs("next -1", Check.IAE, 0, 0, -1, 0);
        edgeIs("next 0", 0, 0, 0, 0, 0);
        edgeIs("next 2", 0, 0, 0, 2, 0);
        edgeIs("next 3", Check.IAE, 0, 0, 3, 0);
        for (int far : Examples.FAR) {
            edgeIs("next " + far, Check.IAE, 0, 0, far, 0);
        }
    }

    /** Promise 2: no such "input" */
    private static void edgeInputs() {
        edgeIs("input -1", Check.IAE, 0, -1, 0, 0);
        edgeIs("input 0", 0, 0, 0, 0, 0);
        edgeIs("input 1", 0, 0, 1, 0, 0);
        edgeIs("input 2", Check.IAE, 0, 2, 0, 0);
        for (int far : Examples.FAR) {
            edgeIs("input " + far, Check.IAE, 0, far, 0, 0);
        }
        // An input too many of one state must not become one of the next state.
        TestBench x = new TestBench(3, 2);
        Check.dueOf("input 2 of edge", Check.IAE, () -> x.edge(0, 2, 0, 1));
        x.edge(0, 0, 1, 0);
        Check.due("state 1 is as it was", 1, x.seal());
    }

    /** Promise 2: no such "output" */
    private static void edgeOutputs() {
        edgeIs("output -1", Check.IAE, 0, 0, 0, -1);
        edgeIs("output 0", 0, 0, 0, 0, 0);
        edgeIs("output 3", 0, 0, 0, 0, 3);
        edgeIs("output 4", Check.IAE, 0, 0, 0, 4);
        for (int far : Examples.FAR) {
            edgeIs("output " + far, Check.IAE, 0, 0, 0, far);
        }
        TestBench x = Examples.sealed(4, 1, new int[][] {{0, 0, 1, 0}, {1, 0, 2, 1}, {2, 0, 3, 2}, {3, 0, 0, 3}});
        Check.due("the four outputs are different ones", 4, x.look(3));
        x.suite(0, 0);
        Check.dueText("and are told", "01230", Examples.outputs(x));
    }

    /** Promise 2: "IllegalStateException if it is SEALED" */
    private static void edgeOnlyBeforeSeal() {
        TestBench x = new TestBench(2, 1);
        Check.dueOf("edge before seal", 0, () -> x.edge(0, 0, 1, 0));
        Check.dueOf("the last edge before seal", 0, () -> x.edge(1, 0, 1, 1));
        Check.due("both count", 2, x.seal());
        Check.dueOf("edge behind seal", Check.ISE, () -> x.edge(1, 0, 1, 0));
        Check.dueOf("edge behind seal that says the same", Check.ISE, () -> x.edge(1, 0, 1, 1));
        Check.due("nothing is changed by it", 1, x.apart(0, 1));
    }

    /** Promise 3: "IllegalArgumentException if there is no such state" */
    private static void startStates() {
        int[][] starts = {{-1, Check.IAE, 0}, {0, 0, 0}, {4, 0, 4}, {5, Check.IAE, 0}};
        for (int[] s : starts) {
            startIs(s[0], s[1], s[2]);
        }
        for (int far : Examples.FAR) {
            startIs(far, Check.IAE, 0);
        }
        TestBench x = Examples.open(5, 2, Examples.LADDER);
        x.start(4);
        x.start(2);
        x.seal();
        Check.due("the latest start counts", 0, x.minimal(2));
    }

    private static void startIs(int s, int want, int due) {
        TestBench x = Examples.open(5, 2, Examples.LADDER);
        Check.dueOf("start(" + s + ")", want, () -> x.start(s));
        x.seal();
        Check.due("the start behind start(" + s + ")", 0, x.minimal(due));
        Check.dueOf("start(" + s + ") when sealed", want == 0 ? Check.ISE : want, () -> x.start(s));
    }

    /** Promise 3: "IllegalStateException if it is SEALED" */
    private static void startOnlyBeforeSeal() {
        TestBench x = Examples.open(5, 2, Examples.LADDER);
        Check.dueOf("start before seal", 0, () -> x.start(0));
        x.seal();
        Check.dueOf("start behind seal", Check.ISE, () -> x.start(4));
        Check.dueText("it has not moved", "0 1 2 1 -1", Examples.numbers(x));
        Check.due("nor for the implementation", 0, x.same());
    }

    /** Promise 4: "IllegalStateException if it was" */
    private static void sealOnce() {
        TestBench x = Examples.open(5, 2, Examples.LADDER);
        Check.due("not sealed", 0, x.look(2));
        Check.due("seal()", 3, x::seal);
        Check.due("sealed", 1, x.look(2));
        x.change(0, 1, 1, 0);
        Check.due("seal() again", Check.ISE, x::seal);
        Check.due("the implementation is not made anew", 2, x.same());
        Check.due("seal() a third time", Check.ISE, x::seal);
    }

    /** Promise 4: "how many states the minimal machine has": from one to all eight. */
    private static void sealSizes() {
        Check.due("one state", 1, new TestBench(1, 1).seal());
        Check.due("eight states, all alike", 1, new TestBench(8, 3).seal());
        Check.due("eight states, none alike", 8, Examples.open(8, 1, Examples.ROW).seal());
        TestBench seven = Examples.open(8, 1, Examples.ROW);
        seven.edge(6, 0, 7, 1);
        Check.due("eight states, two of them alike", 7, seven.seal());
        TestBench one = Examples.open(8, 1, Examples.ROW);
        one.start(7);
        Check.due("eight states, one of them reached", 1, one.seal());
    }

    /** Promise 5: NONE if there is "no such state" */
    private static void minimalOfNoState() {
        TestBench x = Examples.sealed(8, 1, Examples.ROW);
        Check.due("minimal(-1)", TestBench.NONE, x.minimal(-1));
        Check.due("minimal(0)", 0, x.minimal(0));
        Check.due("minimal(7)", 7, x.minimal(7));
        Check.due("minimal(8)", TestBench.NONE, x.minimal(8));
        for (int far : Examples.FAR) {
            Check.due("minimal(" + far + ")", TestBench.NONE, x.minimal(far));
        }
        TestBench small = Examples.ladder();
        Check.due("minimal(5) of five states", TestBench.NONE, small.minimal(5));
        Check.due("minimal(7) of five states", TestBench.NONE, small.minimal(7));
    }

    /** Promise 5: "NONE if there is none (no state that can be reached is)" */
    private static void minimalOfNoReachedState() {
        TestBench x = Examples.ladder();
        Check.due("not reached, but alike to one that is", 1, x.minimal(3));
        Check.due("not reached, and alike to none that is", TestBench.NONE, x.minimal(4));
        TestBench two = Examples.sealed(3, 1, new int[][] {{1, 0, 1, 1}, {2, 0, 2, 1}});
        Check.dueText("alike only to another that is not reached", "0 -1 -1", Examples.numbers(two));
    }

    /** Promise 5: NONE if "it is not SEALED" */
    private static void minimalBeforeSeal() {
        TestBench x = Examples.open(5, 2, Examples.LADDER);
        for (int s = -1; s <= 5; s++) {
            Check.due("minimal(" + s + ") before seal", TestBench.NONE, x.minimal(s));
        }
        x.seal();
        Check.due("minimal(0) behind seal", 0, x.minimal(0));
    }

    /** Promise 6: "0 if they are alike" */
    private static void apartOfAlikeStates() {
        TestBench x = Examples.ladder();
        Check.due("apart of alike states", 0, x.apart(1, 3));
        Check.due("apart of a state and itself", 0, x.apart(4, 4));
        Check.due("apart of states that one input tells apart", 1, x.apart(0, 3));
        TestBench row = Examples.sealed(8, 1, Examples.ROW);
        for (int s = 0; s < 7; s++) {
            Check.due("the row: apart(" + s + ", " + (s + 1) + ")", 7 - s, row.apart(s, s + 1));
            Check.due("the row: apart(" + (s + 1) + ", " + s + ")", 7 - s, row.apart(s + 1, s));
        }
    }

    /** Promise 6: "these need not be reached" */
    private static void apartNeedNotBeReached() {
        TestBench x = Examples.open(8, 1, Examples.ROW);
        x.start(7);
        Check.due("one state is reached", 1, x.seal());
        Check.due("apart of two others", 7, x.apart(0, 1));
        Check.dueText("its word", "0000000", Examples.word(x));
        Check.due("apart of one of them and the reached one", 1, x.apart(0, 7));
    }

    /** Promise 6: "IllegalArgumentException if there are no such states" */
    private static void apartOfNoStates() {
        TestBench x = Examples.ladder();
        TestBench open = Examples.open(5, 2, Examples.LADDER);
        int[] wrong = {-1, 5, 8};
        for (int s : wrong) {
            apartRefused(x, open, s);
        }
        for (int far : Examples.FAR) {
            apartRefused(x, open, far);
        }
        Check.due("apart(0, 4)", 1, () -> x.apart(0, 4));
        Check.due("apart(4, 0)", 1, () -> x.apart(4, 0));
    }

    private static void apartRefused(TestBench x, TestBench open, int s) {
        Check.due("apart(" + s + ", 0)", Check.IAE, () -> x.apart(s, 0));
        Check.due("apart(0, " + s + ")", Check.IAE, () -> x.apart(0, s));
        Check.due("apart(" + s + ", " + s + ")", Check.IAE, () -> x.apart(s, s));
        Check.due("apart(" + s + ", 0) before seal", Check.IAE, () -> open.apart(s, 0));
        Check.due("apart(0, " + s + ") before seal", Check.IAE, () -> open.apart(0, s));
    }

    /** Promise 6: "IllegalStateException if it is not SEALED" */
    private static void apartBeforeSeal() {
        TestBench x = Examples.open(5, 2, Examples.LADDER);
        Check.due("apart(0, 4) before seal", Check.ISE, () -> x.apart(0, 4));
        Check.due("apart(0, 0) before seal", Check.ISE, () -> x.apart(0, 0));
        Check.dueText("no word is found by it", "", Examples.word(x));
        x.seal();
        Check.due("apart(0, 4) behind seal", 1, () -> x.apart(0, 4));
    }

    /** Promise 7: "the empty one, if none told apart, or at first" */
    private static void wordAtFirst() {
        TestBench x = Examples.open(5, 2, Examples.LADDER);
        Check.due("word(0) at first", TestBench.NONE, x.word(0));
        x.seal();
        Check.due("word(0) behind seal", TestBench.NONE, x.word(0));
        x.apart(0, 1);
        Check.due("word(0) that tells apart", 1, x.word(0));
        x.apart(1, 3);
        Check.due("word(0) if none told apart", TestBench.NONE, x.word(0));
        x.apart(0, 1);
        x.same();
        Check.due("word(0) if same() found none", TestBench.NONE, x.word(0));
    }

    /** Promise 7: "NONE if there is none such" */
    private static void wordEnds() {
        TestBench row = Examples.sealed(8, 1, Examples.ROW);
        row.apart(0, 1);
        wordHas("apart", row, 7);
        row.apart(6, 7);
        wordHas("a shorter one behind a longer one", row, 1);
        // Of 8 and 10 states, no two can need a longer word than 17 inputs.
        TestBench x = Examples.sealed(8, 1, Examples.WHEEL);
        x.resize(10);
        x.change(7, 0, 8, 0);
        x.change(8, 0, 9, 1);
        Check.due("the longest word of all", 17, x.same());
        wordHas("same", x, 17);
    }

    private static void wordHas(String name, TestBench x, int length) {
        Check.due(name + ": word(-1)", TestBench.NONE, x.word(-1));
        Check.due(name + ": word(0)", 0, x.word(0));
        Check.due(name + ": its last input", 0, x.word(length - 1));
        Check.due(name + ": behind its last input", TestBench.NONE, x.word(length));
        for (int far : Examples.FAR) {
            Check.due(name + ": word(" + far + ")", TestBench.NONE, x.word(far));
        }
    }

    /** Promise 7: "the WORD that apart() or same() found last" */
    private static void wordIsTheLatest() {
        TestBench x = Examples.ladder();
        x.change(0, 1, 1, 0);
        x.apart(3, 4);
        Check.dueText("of apart()", "0", Examples.word(x));
        x.same();
        Check.dueText("of same() behind it", "11", Examples.word(x));
        x.apart(0, 1);
        Check.dueText("of apart() behind that", "1", Examples.word(x));
        Check.due("a refused apart()", Check.IAE, () -> x.apart(0, 5));
        Check.dueText("changes nothing", "1", Examples.word(x));
        x.suite(0, 0);
        x.run();
        Check.dueText("run() finds no word", "1", Examples.word(x));
    }

    /** Promise 8: "With w -1: how many words. NONE if there is none such": of words. */
    private static void familyWords() {
        TestBench x = Examples.fork();
        Check.due("family(-2, -1)", TestBench.NONE, x.family(-2, -1));
        Check.due("family(-1, -1)", 2, x.family(-1, -1));
        Check.due("family(-1, 0)", 2, x.family(-1, 0));
        Check.due("family(-1, 7)", 2, x.family(-1, 7));
        Check.due("family(0, -1)", 1, x.family(0, -1));
        Check.due("family(1, -1)", 1, x.family(1, -1));
        Check.due("family(2, -1)", TestBench.NONE, x.family(2, -1));
        Check.due("family(2, 0)", TestBench.NONE, x.family(2, 0));
        for (int far : Examples.FAR) {
            Check.due("family(" + far + ", -1)", TestBench.NONE, x.family(far, -1));
            Check.due("family(" + far + ", 0)", TestBench.NONE, x.family(far, 0));
        }
        TestBench one = new TestBench(1, 1);
        one.seal();
        Check.due("family(-1, -1), empty", 0, one.family(-1, -1));
        Check.due("family(0, -1), empty", TestBench.NONE, one.family(0, -1));
        Check.due("family(0, 0), empty", TestBench.NONE, one.family(0, 0));
    }

    /** Promise 8: "how long it is, if i is -1 ... NONE if there is none such": of inputs. */
    private static void familyInputs() {
        TestBench x = Examples.sealed(8, 1, Examples.ROW);
        Check.due("family(0, -2)", TestBench.NONE, x.family(0, -2));
        Check.due("family(0, -1)", 7, x.family(0, -1));
        Check.due("family(0, 0)", 0, x.family(0, 0));
        Check.due("family(0, 6)", 0, x.family(0, 6));
        Check.due("family(0, 7)", TestBench.NONE, x.family(0, 7));
        for (int far : Examples.FAR) {
            Check.due("family(0, " + far + ")", TestBench.NONE, x.family(0, far));
        }
    }

    /** Promise 8: NONE if "it is not SEALED" */
    private static void familyBeforeSeal() {
        TestBench x = Examples.open(3, 2, Examples.FORK);
        Check.due("family(-1, -1) before seal", TestBench.NONE, x.family(-1, -1));
        Check.due("family(-1, 0) before seal", TestBench.NONE, x.family(-1, 0));
        Check.due("family(0, -1) before seal", TestBench.NONE, x.family(0, -1));
        Check.due("family(0, 0) before seal", TestBench.NONE, x.family(0, 0));
        x.seal();
        Check.due("family(-1, -1) behind seal", 2, x.family(-1, -1));
    }

    /** Promise 9: "NONE if there is none such": of minimal states. */
    private static void ownStates() {
        TestBench x = Examples.ladder();
        Check.due("own(-1, -1)", TestBench.NONE, x.own(-1, -1));
        Check.due("own(0, -1)", 1, x.own(0, -1));
        Check.due("own(2, -1)", 1, x.own(2, -1));
        Check.due("own(2, 0)", 0, x.own(2, 0));
        Check.due("own(3, -1): a state, but no minimal one", TestBench.NONE, x.own(3, -1));
        Check.due("own(3, 0)", TestBench.NONE, x.own(3, 0));
        for (int far : Examples.FAR) {
            Check.due("own(" + far + ", -1)", TestBench.NONE, x.own(far, -1));
            Check.due("own(" + far + ", 0)", TestBench.NONE, x.own(far, 0));
        }
        TestBench row = Examples.sealed(8, 1, Examples.ROW);
        Check.due("own(7, -1) of eight", 1, row.own(7, -1));
        Check.due("own(8, -1) of eight", TestBench.NONE, row.own(8, -1));
    }

    /** Promise 9: "how many, if w is -1. NONE if there is none such": of own words. */
    private static void ownNumbers() {
        TestBench x = Examples.fork();
        Check.due("own(0, -2)", TestBench.NONE, x.own(0, -2));
        Check.due("own(0, -1)", 2, x.own(0, -1));
        Check.due("own(0, 0)", 0, x.own(0, 0));
        Check.due("own(0, 1)", 1, x.own(0, 1));
        Check.due("own(0, 2)", TestBench.NONE, x.own(0, 2));
        Check.due("own(2, -1)", 1, x.own(2, -1));
        Check.due("own(2, 0)", 1, x.own(2, 0));
        Check.due("own(2, 1)", TestBench.NONE, x.own(2, 1));
        for (int far : Examples.FAR) {
            Check.due("own(0, " + far + ")", TestBench.NONE, x.own(0, far));
        }
        TestBench one = new TestBench(1, 1);
        one.seal();
        Check.due("own(0, -1) of one state", 0, one.own(0, -1));
        Check.due("own(0, 0) of one state", TestBench.NONE, one.own(0, 0));
    }

    /** Promise 9: NONE if "it is not SEALED" */
    private static void ownBeforeSeal() {
        TestBench x = Examples.open(3, 2, Examples.FORK);
        Check.due("own(0, -1) before seal", TestBench.NONE, x.own(0, -1));
        Check.due("own(0, 0) before seal", TestBench.NONE, x.own(0, 0));
        x.seal();
        Check.due("own(0, -1) behind seal", 2, x.own(0, -1));
    }
}
