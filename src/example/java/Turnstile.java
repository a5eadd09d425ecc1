/** A turnstile as the specification, a broken one as the implementation: every method of TestBench at least once. */
public final class Turnstile {
    private static final int LOCKED = 0;
    private static final int OPEN = 1;
    private static final int LOCKED_AGAIN = 2;

    private static final int COIN = 0;
    private static final int PUSH = 1;

    private static final int NOTHING = 0;
    private static final int UNLOCKS = 1;
    private static final int COIN_COMES_BACK = 2;
    private static final int TURNS = 3;

    public static void main(String[] args) {
        TestBench bench = new TestBench(3, 2);
        bench.start(LOCKED);
        bench.edge(LOCKED, COIN, OPEN, UNLOCKS);
        bench.edge(LOCKED, PUSH, LOCKED, NOTHING);
        bench.edge(OPEN, COIN, OPEN, COIN_COMES_BACK);
        bench.edge(OPEN, PUSH, LOCKED_AGAIN, TURNS);
        bench.edge(LOCKED_AGAIN, COIN, OPEN, UNLOCKS);
        bench.edge(LOCKED_AGAIN, PUSH, LOCKED_AGAIN, NOTHING);

        System.out.println("minimal states: " + bench.seal());
        System.out.println("LOCKED_AGAIN is minimal state " + bench.minimal(LOCKED_AGAIN));
        System.out.println("LOCKED and LOCKED_AGAIN: apart() is " + bench.apart(LOCKED, LOCKED_AGAIN));
        System.out.println("LOCKED and OPEN: apart() is " + bench.apart(LOCKED, OPEN) + ", the word's input 0 is " + bench.word(0));
        System.out.println("words of the family: " + bench.family(-1, 0) + ", the length of word 0: " + bench.family(0, -1) + ", its input 0: " + bench.family(0, 0));
        System.out.println("own words of minimal state 0: " + bench.own(0, -1) + ", the first one: word " + bench.own(0, 0) + " of the family");

        System.out.println("tests for one state more: " + bench.suite(1, 1));
        System.out.println("beginnings: " + bench.look(6) + ", transitions that the tests go through: " + bench.covered());
        for (int w = 0; w < bench.look(4); w++) {
            System.out.println("  test " + w + ": " + row(bench, w, false) + " gives " + row(bench, w, true));
        }

        System.out.println("the minimal machine itself: run() is " + bench.run() + ", same() is " + bench.same());
        // A push on the locked one jams it: a coin unlocks it for a moment, but it does not open any more.
        bench.resize(3);
        bench.change(0, PUSH, 2, NOTHING);
        bench.change(2, COIN, 2, UNLOCKS);
        System.out.println("a broken turnstile: test " + bench.run() + " fails at place " + bench.failed() + ", same() is " + bench.same());

        byHand(bench, 3);
    }

    private static String row(TestBench bench, int w, boolean expected) {
        StringBuilder text = new StringBuilder();
        for (int i = 0; i < bench.test(w, -1, false); i++) {
            text.append(bench.test(w, i, expected));
        }
        return text.toString();
    }

    /** Leads a turnstile that never turns through one test. */
    private static void byHand(TestBench bench, int w) {
        int input = bench.begin(w);
        while (input >= 0) {
            int output = input == COIN ? UNLOCKS : NOTHING;
            System.out.println("by hand: input " + input + ", output " + output);
            input = bench.give(output);
        }
        System.out.println(input == TestBench.NONE ? "by hand: passed" : "by hand: failed");
    }
}
