/** Small machines whose answers can be worked out by hand, and what an object tells, read as texts. */
final class Examples {
    /** State 3 is not reached but alike to 1; state 4 is not reached and alike to none. */
    static final int[][] LADDER = {
        {0, 0, 1, 0}, {0, 1, 0, 0},
        {1, 0, 2, 0}, {1, 1, 0, 1},
        {2, 0, 2, 0}, {2, 1, 1, 2},
        {3, 0, 2, 0}, {3, 1, 0, 1},
        {4, 0, 4, 3}, {4, 1, 4, 0},
    };

    /** Input 0 tells by the low half of the state's number, input 1 by the high half. */
    static final int[][] SQUARE = {
        {0, 0, 1, 0}, {0, 1, 2, 0},
        {1, 0, 1, 1}, {1, 1, 3, 0},
        {2, 0, 2, 0}, {2, 1, 2, 1},
        {3, 0, 3, 1}, {3, 1, 3, 1},
    };

    /** Input 0 tells state 1 from the others, input 1 state 2: these two need one word each, state 0 needs both. */
    static final int[][] FORK = {{0, 0, 1, 0}, {0, 1, 2, 0}, {1, 0, 1, 1}, {2, 1, 2, 1}};

    /** Eight states in a ring by input 0; only state 5 ever gives a 1, so each word tells one state from the others. */
    static final int[][] RING = {
        {0, 0, 1, 0}, {1, 0, 2, 0}, {2, 0, 3, 0}, {3, 0, 4, 0}, {4, 0, 5, 0}, {5, 0, 6, 0}, {6, 0, 7, 0}, {7, 0, 0, 0},
        {5, 1, 5, 1},
    };

    /** Eight states in a row; only the last one gives a 1. */
    static final int[][] ROW = {
        {0, 0, 1, 0}, {1, 0, 2, 0}, {2, 0, 3, 0}, {3, 0, 4, 0}, {4, 0, 5, 0}, {5, 0, 6, 0}, {6, 0, 7, 0}, {7, 0, 7, 1},
    };

    /** Eight states in a ring by the only input; only the start gives a 1. */
    static final int[][] WHEEL = {
        {0, 0, 1, 1}, {1, 0, 2, 0}, {2, 0, 3, 0}, {3, 0, 4, 0}, {4, 0, 5, 0}, {5, 0, 6, 0}, {6, 0, 7, 0}, {7, 0, 0, 0},
    };

    /** Five states and three inputs: its suite(1, 2) has just 800 beginnings. */
    static final int[][] JUST_FITS = {{0, 0, 1, 0}, {1, 2, 2, 0}, {2, 0, 3, 0}, {3, 0, 4, 1}, {4, 0, 0, 0}, {4, 2, 1, 0}};

    /** Five states and three inputs: its suite(1, 2) has 801 beginnings, one too many. */
    static final int[][] ONE_TOO_MANY = {{0, 0, 1, 0}, {1, 0, 2, 0}, {1, 2, 2, 0}, {2, 0, 3, 0}, {2, 1, 4, 0}, {4, 1, 3, 1}};

    /** Numbers far outside every range of the document, some of which become small ones when bits are lost. */
    static final int[] FAR = {Integer.MIN_VALUE, Integer.MIN_VALUE + 1, -65536, -256, -2, 256, 65536, 1 << 30, Integer.MAX_VALUE};

    private Examples() {
    }

    static TestBench open(int n, int k, int[][] edges) {
        TestBench x = new TestBench(n, k);
        for (int[] e : edges) {
            x.edge(e[0], e[1], e[2], e[3]);
        }
        return x;
    }

    static TestBench sealed(int n, int k, int[][] edges) {
        TestBench x = open(n, k, edges);
        x.seal();
        return x;
    }

    static TestBench ladder() {
        return sealed(5, 2, LADDER);
    }

    static TestBench fork() {
        return sealed(3, 2, FORK);
    }

    static String word(TestBench x) {
        StringBuilder text = new StringBuilder();
        for (int i = 0; x.word(i) != TestBench.NONE; i++) {
            text.append(x.word(i));
        }
        return text.toString();
    }

    static String family(TestBench x) {
        StringBuilder text = new StringBuilder();
        for (int w = 0; w < x.family(-1, -1); w++) {
            text.append(w == 0 ? "" : " ");
            for (int i = 0; i < x.family(w, -1); i++) {
                text.append(x.family(w, i));
            }
        }
        return text.toString();
    }

    static String own(TestBench x, int s) {
        StringBuilder text = new StringBuilder();
        for (int w = 0; w < x.own(s, -1); w++) {
            text.append(w == 0 ? "" : " ").append(x.own(s, w));
        }
        return text.toString();
    }

    static String inputs(TestBench x) {
        return tests(x, false);
    }

    static String outputs(TestBench x) {
        return tests(x, true);
    }

    static String looks(TestBench x) {
        StringBuilder text = new StringBuilder();
        for (int which = 0; which <= 6; which++) {
            text.append(which == 0 ? "" : " ").append(x.look(which));
        }
        return text.toString();
    }

    static String numbers(TestBench x) {
        StringBuilder text = new StringBuilder();
        for (int s = 0; s < x.look(0); s++) {
            text.append(s == 0 ? "" : " ").append(x.minimal(s));
        }
        return text.toString();
    }

    private static String tests(TestBench x, boolean expected) {
        StringBuilder text = new StringBuilder();
        int count = x.look(4);
        for (int w = 0; w < count; w++) {
            text.append(w == 0 ? "" : " ");
            int length = x.test(w, -1, expected);
            for (int i = 0; i < length; i++) {
                text.append(x.test(w, i, expected));
            }
        }
        return text.toString();
    }
}
