/** Each promise by examples worked out by hand: ordinary inputs, the edges that the document names, and wrong inputs. */
public final class PromisesTest {
    private static final String[] LADDER_TESTS = {"0001", "0011", "011", "11"};
    private static final String[] LADDER_OUTPUTS = {"0002", "0021", "010", "00"};

    private PromisesTest() {
    }

    public static void main(String[] args) {
        newObject();
        edge();
        start();
        seal();
        minimal();
        apartAndWord();
        family();
        own();
        suite();
        suiteThatDoesNotFit();
        test();
        resize();
        change();
        runAndFailed();
        beginAndGive();
        same();
        covered();
        look();
        Check.finish("PromisesTest");
    }

    private static TestBench square() {
        return Examples.sealed(4, 2, Examples.SQUARE);
    }

    private static void dueWord(String what, String want, TestBench x) {
        for (int i = 0; i < want.length(); i++) {
            Check.due(what + ": word(" + i + ")", want.charAt(i) - '0', x.word(i));
        }
        Check.due(what + ": word behind its end", TestBench.NONE, x.word(want.length()));
        Check.due(what + ": word(-1)", TestBench.NONE, x.word(-1));
    }

    private static void newObject() {
        int[][] made = {{5, 2, 5, 2}, {1, 1, 1, 1}, {8, 3, 8, 3}, {0, 0, 1, 1}, {9, 4, 8, 3}, {-7, 99, 1, 3}, {Integer.MAX_VALUE, Integer.MIN_VALUE, 8, 1}};
        for (int[] m : made) {
            TestBench x = new TestBench(m[0], m[1]);
            Check.due("states of new TestBench(" + m[0] + ", " + m[1] + ")", m[2], x.look(0));
            Check.due("inputs of new TestBench(" + m[0] + ", " + m[1] + ")", m[3], x.look(1));
            Check.due("sealed at first", 0, x.look(2));
        }
        TestBench bare = new TestBench(4, 2);
        Check.due("a bare machine has one minimal state", 1, bare.seal());
        Check.due("all bare states are alike", 0, bare.minimal(3));
        Check.due("the start is 0 at first", 3, Examples.open(5, 2, Examples.LADDER).seal());
    }

    private static void edge() {
        TestBench x = new TestBench(2, 2);
        int[][] wrong = {{-1, 0, 0, 0}, {2, 0, 0, 0}, {0, -1, 0, 0}, {0, 2, 0, 0}, {0, 0, -1, 0}, {0, 0, 2, 0}, {0, 0, 0, -1}, {0, 0, 0, 4}};
        for (int[] e : wrong) {
            Check.dueOf("wrong edge", Check.IAE, () -> x.edge(e[0], e[1], e[2], e[3]));
        }
        x.edge(0, 0, 1, 0);
        x.edge(1, 1, 0, 3);
        x.edge(1, 0, 1, 2);
        x.edge(1, 0, 1, 0);
        Check.due("edges count", 2, x.seal());
        Check.due("the latest edge counts", 1, x.apart(0, 1));
        dueWord("apart by output 3", "1", x);
        Check.dueOf("edge when sealed", Check.ISE, () -> x.edge(0, 0, 1, 0));
        Check.dueOf("wrong edge when sealed", Check.IAE, () -> x.edge(0, 0, 2, 0));
    }

    private static void start() {
        TestBench x = Examples.open(5, 2, Examples.LADDER);
        Check.dueOf("start(-1)", Check.IAE, () -> x.start(-1));
        Check.dueOf("start(5)", Check.IAE, () -> x.start(5));
        x.start(4);
        Check.dueOf("start(5) again", Check.IAE, () -> x.start(5));
        Check.due("only the start is reached", 1, x.seal());
        Check.due("the start is 0", 0, x.minimal(4));
        Check.due("the old start is not reached", TestBench.NONE, x.minimal(0));
        Check.dueOf("start when sealed", Check.ISE, () -> x.start(0));
        Check.dueOf("wrong start when sealed", Check.IAE, () -> x.start(5));
    }

    private static void seal() {
        TestBench x = Examples.open(5, 2, Examples.LADDER);
        Check.due("seal()", 3, x::seal);
        Check.due("seal() again", Check.ISE, x::seal);
        Check.due("seal() of the square", 4, Examples.open(4, 2, Examples.SQUARE).seal());
    }

    private static void minimal() {
        TestBench x = Examples.open(5, 2, Examples.LADDER);
        Check.due("minimal(0) before seal", TestBench.NONE, x.minimal(0));
        x.seal();
        int[] want = {0, 1, 2, 1, TestBench.NONE, TestBench.NONE};
        for (int s = 0; s < want.length; s++) {
            Check.due("minimal(" + s + ")", want[s], x.minimal(s));
        }
        Check.due("minimal(-1)", TestBench.NONE, x.minimal(-1));
        TestBench y = Examples.open(5, 2, Examples.LADDER);
        y.start(3);
        y.seal();
        int[] fromThree = {2, 0, 1, 0, TestBench.NONE};
        for (int s = 0; s < fromThree.length; s++) {
            Check.due("from 3: minimal(" + s + ")", fromThree[s], y.minimal(s));
        }
    }

    private static void apartAndWord() {
        TestBench x = new TestBench(3, 2);
        x.edge(0, 1, 1, 0);
        x.edge(1, 1, 2, 0);
        x.edge(2, 1, 0, 1);
        dueWord("at first", "", x);
        Check.due("apart before seal", Check.ISE, () -> x.apart(0, 1));
        Check.due("wrong apart before seal", Check.IAE, () -> x.apart(0, 3));
        x.seal();
        dueWord("behind seal", "", x);
        Check.due("apart(0, 1)", 2, x.apart(0, 1));
        dueWord("apart(0, 1)", "11", x);
        Check.due("apart(0, 3)", Check.IAE, () -> x.apart(0, 3));
        Check.due("apart(-1, 0)", Check.IAE, () -> x.apart(-1, 0));
        dueWord("a refused apart leaves the word", "11", x);
        Check.due("apart(2, 0)", 1, x.apart(2, 0));
        dueWord("apart(2, 0)", "1", x);
        Check.due("apart(1, 1)", 0, x.apart(1, 1));
        dueWord("apart(1, 1)", "", x);
        TestBench y = Examples.ladder();
        Check.due("apart of alike states", 0, y.apart(1, 3));
        Check.due("apart of states that are not reached", 1, y.apart(3, 4));
        dueWord("apart(3, 4)", "0", y);
    }

    private static void family() {
        TestBench x = Examples.open(4, 2, Examples.SQUARE);
        Check.due("family(-1, 0) before seal", TestBench.NONE, x.family(-1, 0));
        x.seal();
        Check.due("family(-1, 0)", 2, x.family(-1, 0));
        Check.due("family(-1, -1)", 2, x.family(-1, -1));
        Check.due("family(-1, 9)", 2, x.family(-1, 9));
        for (int w = 0; w < 2; w++) {
            Check.due("family(" + w + ", -1)", 1, x.family(w, -1));
            Check.due("family(" + w + ", 0)", w, x.family(w, 0));
            Check.due("family(" + w + ", 1)", TestBench.NONE, x.family(w, 1));
            Check.due("family(" + w + ", -2)", TestBench.NONE, x.family(w, -2));
        }
        Check.due("family(2, -1)", TestBench.NONE, x.family(2, -1));
        Check.due("family(2, 0)", TestBench.NONE, x.family(2, 0));
        Check.due("family(-2, 0)", TestBench.NONE, x.family(-2, 0));
        TestBench one = new TestBench(3, 3);
        one.seal();
        Check.due("the family of one state", 0, one.family(-1, 0));
        Check.due("no word of it", TestBench.NONE, one.family(0, -1));
    }

    private static void own() {
        TestBench x = Examples.open(4, 2, Examples.SQUARE);
        Check.due("own(0, -1) before seal", TestBench.NONE, x.own(0, -1));
        x.seal();
        int[][] want = {{0, 1}, {0, 1}, {1, 0}, {0, 1}};
        for (int s = 0; s < 4; s++) {
            Check.due("own(" + s + ", -1)", 2, x.own(s, -1));
            Check.due("own(" + s + ", 0)", want[s][0], x.own(s, 0));
            Check.due("own(" + s + ", 1)", want[s][1], x.own(s, 1));
            Check.due("own(" + s + ", 2)", TestBench.NONE, x.own(s, 2));
            Check.due("own(" + s + ", -2)", TestBench.NONE, x.own(s, -2));
        }
        Check.due("own(4, -1)", TestBench.NONE, x.own(4, -1));
        Check.due("own(-1, -1)", TestBench.NONE, x.own(-1, -1));
        Check.due("own is by minimal states", TestBench.NONE, Examples.ladder().own(3, -1));
    }

    private static void suite() {
        TestBench x = Examples.open(5, 2, Examples.LADDER);
        Check.due("suite before seal", Check.ISE, () -> x.suite(0, 0));
        Check.due("wrong suite before seal", Check.IAE, () -> x.suite(2, 0));
        x.seal();
        int[][] wrong = {{-1, 0}, {2, 0}, {0, -1}, {0, 3}};
        for (int[] w : wrong) {
            Check.due("suite(" + w[0] + ", " + w[1] + ")", Check.IAE, () -> x.suite(w[0], w[1]));
        }
        Check.due("suite(0, 0)", 4, x.suite(0, 0));
        Check.due("its beginnings", 11, x.look(6));
        Check.due("suite(0, 1)", 8, x.suite(0, 1));
        Check.due("its beginnings", 23, x.look(6));
        Check.due("suite(1, 0) in place of it", 4, x.suite(1, 0));
        Check.due("its beginnings", 11, x.look(6));
        TestBench one = new TestBench(1, 3);
        one.seal();
        Check.due("suite(1, 2) of one state", 27, one.suite(1, 2));
        Check.due("its beginnings", 40, one.look(6));
    }

    private static void suiteThatDoesNotFit() {
        TestBench fits = Examples.sealed(5, 3, Examples.JUST_FITS);
        Check.due("800 beginnings fit", 1, fits.suite(1, 2) > 0 ? 1 : 0);
        Check.due("its beginnings", 800, fits.look(6));
        TestBench x = Examples.sealed(5, 3, Examples.ONE_TOO_MANY);
        Check.due("801 beginnings do not fit", Check.UOE, () -> x.suite(1, 2));
        Check.due("no suite", Check.ISE, x::run);
        int tests = x.suite(0, 0);
        int beginnings = x.look(6);
        int length = x.test(0, -1, false);
        x.change(0, 0, 1, 3);
        Check.due("run()", 0, x.run());
        Check.due("begin(0)", 0, x.begin(0));
        Check.due("it does not fit", Check.UOE, () -> x.suite(1, 2));
        Check.due("wrong method", Check.IAE, () -> x.suite(2, 2));
        Check.due("the tests stay", tests, x.look(4));
        Check.due("the beginnings stay", beginnings, x.look(6));
        Check.due("test 0 stays", length, x.test(0, -1, false));
        Check.due("failed() stays", 0, x.failed());
        Check.due("the test by hand goes on", x.test(0, 1, false), x.give(x.test(0, 0, true)));
    }

    private static void test() {
        TestBench x = Examples.ladder();
        Check.due("test without a suite", TestBench.NONE, x.test(0, -1, false));
        x.suite(0, 0);
        for (int w = 0; w < LADDER_TESTS.length; w++) {
            int length = LADDER_TESTS[w].length();
            Check.due("test(" + w + ", -1, false)", length, x.test(w, -1, false));
            Check.due("test(" + w + ", -1, true)", length, x.test(w, -1, true));
            for (int i = 0; i < length; i++) {
                Check.due("test(" + w + ", " + i + ", false)", LADDER_TESTS[w].charAt(i) - '0', x.test(w, i, false));
                Check.due("test(" + w + ", " + i + ", true)", LADDER_OUTPUTS[w].charAt(i) - '0', x.test(w, i, true));
            }
            Check.due("behind test " + w, TestBench.NONE, x.test(w, length, false));
            Check.due("behind test " + w + ", expected", TestBench.NONE, x.test(w, length, true));
            Check.due("before test " + w, TestBench.NONE, x.test(w, -2, true));
        }
        Check.due("test(4, -1, false)", TestBench.NONE, x.test(4, -1, false));
        Check.due("test(-1, -1, false)", TestBench.NONE, x.test(-1, -1, false));
    }

    private static void resize() {
        TestBench x = Examples.open(5, 2, Examples.LADDER);
        Check.dueOf("resize before seal", Check.ISE, () -> x.resize(3));
        Check.dueOf("wrong resize before seal", Check.IAE, () -> x.resize(0));
        x.seal();
        Check.dueOf("resize(0)", Check.IAE, () -> x.resize(0));
        Check.dueOf("resize(11)", Check.IAE, () -> x.resize(11));
        Check.due("a refused one changes nothing", 3, x.look(5));
        x.resize(10);
        Check.due("resize(10)", 10, x.look(5));
        Check.due("those that it had stay", 0, x.same());
        x.resize(2);
        Check.due("a next state that is gone becomes 0", 3, x.same());
        dueWord("resize(2)", "001", x);
        x.resize(3);
        x.change(1, 0, 2, 0);
        Check.due("a new state has output 0", 3, x.same());
        dueWord("resize(3)", "001", x);
        x.change(2, 1, 1, 2);
        Check.due("a new state is its own next state", 0, x.same());
        x.resize(1);
        Check.due("resize(1)", 2, x.same());
        dueWord("resize(1)", "01", x);
    }

    private static void change() {
        TestBench x = Examples.open(5, 2, Examples.LADDER);
        Check.dueOf("change before seal", Check.ISE, () -> x.change(0, 0, 0, 0));
        Check.dueOf("wrong change before seal", Check.ISE, () -> x.change(9, 9, 9, 9));
        x.seal();
        int[][] wrong = {{-1, 0, 0, 0}, {3, 0, 0, 0}, {0, -1, 0, 0}, {0, 2, 0, 0}, {0, 0, -1, 0}, {0, 0, 3, 0}, {0, 0, 0, -1}, {0, 0, 0, 4}};
        for (int[] e : wrong) {
            Check.dueOf("wrong change", Check.IAE, () -> x.change(e[0], e[1], e[2], e[3]));
        }
        Check.due("a refused one changes nothing", 0, x.same());
        x.resize(4);
        x.change(2, 1, 3, 3);
        Check.due("the output is changed", 3, x.same());
        Check.due("the specification is not", 0, x.apart(1, 3));
        x.change(2, 1, 3, 2);
        Check.due("the next state is changed", 4, x.same());
        dueWord("change(2, 1, 3, 2)", "0011", x);
    }

    private static void runAndFailed() {
        TestBench x = Examples.open(5, 2, Examples.LADDER);
        Check.due("run() before seal", Check.ISE, x::run);
        x.seal();
        Check.due("run() without a suite", Check.ISE, x::run);
        Check.due("failed() at first", TestBench.NONE, x.failed());
        x.suite(0, 0);
        Check.due("the minimal machine passes", TestBench.NONE, x.run());
        Check.due("failed() of it", TestBench.NONE, x.failed());
        x.change(2, 0, 1, 0);
        Check.due("a wrong next state", 0, x.run());
        Check.due("failed()", 3, x.failed());
        x.change(2, 0, 2, 0);
        x.change(0, 1, 1, 0);
        Check.due("failed() is of the latest run", 3, x.failed());
        Check.due("another one", 3, x.run());
        Check.due("failed()", 1, x.failed());
        x.suite(0, 1);
        Check.due("failed() behind a new suite", 1, x.failed());
        x.change(0, 1, 0, 0);
        Check.due("run() passes", TestBench.NONE, x.run());
        Check.due("failed() of it", TestBench.NONE, x.failed());
    }

    private static void beginAndGive() {
        TestBench x = Examples.ladder();
        Check.due("begin without a suite", Check.IAE, () -> x.begin(0));
        Check.due("give without a test", Check.ISE, () -> x.give(0));
        Check.due("a wrong output without a test", Check.ISE, () -> x.give(4));
        x.suite(0, 0);
        Check.due("begin(1)", 0, x.begin(1));
        Check.due("give(0)", 0, x.give(0));
        Check.due("begin(4)", Check.IAE, () -> x.begin(4));
        Check.due("begin(-1)", Check.IAE, () -> x.begin(-1));
        Check.due("give(4)", Check.IAE, () -> x.give(4));
        Check.due("give(-1)", Check.IAE, () -> x.give(-1));
        Check.due("give(0), the second", 1, x.give(0));
        Check.due("give(2)", 1, x.give(2));
        Check.due("give(1), the last", TestBench.NONE, x.give(1));
        Check.due("give behind the last", Check.ISE, () -> x.give(0));
        x.change(1, 1, 0, 0);
        Check.due("begin(2)", 0, x.begin(2));
        Check.due("give(0)", 1, x.give(0));
        Check.due("what the implementation would give", -2, x.give(0));
        Check.due("the test is over", Check.ISE, () -> x.give(1));
        x.begin(0);
        x.give(0);
        Check.due("begin(3) in place of another", 1, x.begin(3));
        Check.due("give(0) to it", 1, x.give(0));
        x.suite(1, 0);
        Check.due("a new suite ends the test", Check.ISE, () -> x.give(0));
    }

    private static void same() {
        TestBench x = Examples.open(5, 2, Examples.LADDER);
        Check.due("same() before seal", Check.ISE, x::same);
        x.seal();
        x.apart(0, 1);
        Check.due("same() at first", 0, x.same());
        dueWord("same() at first", "", x);
        x.change(0, 1, 1, 0);
        Check.due("same()", 2, x.same());
        dueWord("same()", "11", x);
        TestBench y = Examples.open(5, 2, Examples.LADDER);
        y.start(3);
        y.seal();
        Check.due("it is from the specification's start", 0, y.same());
    }

    private static void covered() {
        TestBench x = Examples.ladder();
        Check.due("covered() without a suite", 0, x.covered());
        x.suite(0, 0);
        Check.due("covered()", 6, x.covered());
        TestBench y = square();
        y.suite(1, 1);
        Check.due("covered() of the square", 8, y.covered());
    }

    private static void look() {
        TestBench x = Examples.open(5, 2, Examples.LADDER);
        dueLooks("before seal", x, 5, 2, 0, 0, 0, 0, 0);
        x.seal();
        dueLooks("sealed", x, 5, 2, 1, 3, 0, 3, 0);
        x.suite(0, 0);
        x.resize(7);
        dueLooks("with a suite", x, 5, 2, 1, 3, 4, 7, 11);
        Check.due("look(-1)", TestBench.NONE, x.look(-1));
        Check.due("look(7)", TestBench.NONE, x.look(7));
    }

    private static void dueLooks(String when, TestBench x, int... want) {
        for (int which = 0; which < want.length; which++) {
            Check.due(when + ": look(" + which + ")", want[which], x.look(which));
        }
    }
}
