/** Makes tests for machines with finitely many states and runs implementations against them. */
public final class TestBench {
    public static final int NONE = -1;

    private static final int NOT_EXPECTED = -2;
    private static final int MOST_STATES = 8;
    private static final int MOST_INPUTS = 3;
    private static final int OUTPUTS = 4;
    private static final int MOST_BUILT_STATES = 10;
    private static final int PAIRS = MOST_BUILT_STATES * MOST_BUILT_STATES;
    private static final int METHODS = 2;
    private static final int MOST_MORE = 2;
    private static final int MOST_BEGINNINGS = 800;
    private static final int ROOT = 0;

    private final Machine specification;
    private final Reduction reduction;
    private final Family family;
    private final Machine implementation;
    private final PairSearch search;
    private final Trial trial;
    private final Word word;
    private Suite suite;
    // A suite that does not fit must leave the other one whole, so it is built beside it.
    private Suite spare;
    private int start;
    private boolean sealed;
    private int failedPlace;
    private int handTest;
    private int handPlace;

    public TestBench(int n, int k) {
        int states = Math.max(1, Math.min(MOST_STATES, n));
        int inputs = Math.max(1, Math.min(MOST_INPUTS, k));
        specification = new Machine(MOST_STATES, states, inputs);
        reduction = new Reduction(inputs);
        family = new Family();
        implementation = new Machine(MOST_BUILT_STATES, 0, inputs);
        search = new PairSearch();
        trial = new Trial();
        word = new Word();
        suite = new Suite(reduction, family);
        spare = new Suite(reduction, family);
        start = 0;
        sealed = false;
        failedPlace = NONE;
        handTest = NONE;
        handPlace = 0;
    }

    public void edge(int s, int input, int next, int output) throws IllegalArgumentException, IllegalStateException {
        if (!specification.allows(s, input, next, output)) {
            throw new IllegalArgumentException();
        }
        if (sealed) {
            throw new IllegalStateException();
        }
        specification.set(s, input, next, output);
    }

    public void start(int s) throws IllegalArgumentException, IllegalStateException {
        if (!specification.hasState(s)) {
            throw new IllegalArgumentException();
        }
        if (sealed) {
            throw new IllegalStateException();
        }
        start = s;
    }

    public int seal() throws IllegalStateException {
        if (sealed) {
            throw new IllegalStateException();
        }
        reduction.reduce(specification, start, search);
        family.choose(reduction.machine, search);
        implementation.copy(reduction.machine);
        sealed = true;
        return reduction.machine.states;
    }

    public int minimal(int s) {
        return sealed && specification.hasState(s) ? reduction.number[s] : NONE;
    }

    public int apart(int s, int t) throws IllegalArgumentException, IllegalStateException {
        if (!specification.hasState(s) || !specification.hasState(t)) {
            throw new IllegalArgumentException();
        }
        if (!sealed) {
            throw new IllegalStateException();
        }
        search.find(specification, s, specification, t);
        word.copy(search.found);
        return word.length;
    }

    public int word(int i) {
        return word.at(i);
    }

    public int family(int w, int i) {
        if (!sealed) {
            return NONE;
        }
        if (w == -1) {
            return family.size;
        }
        if (!family.has(w)) {
            return NONE;
        }
        return i == -1 ? family.words[w].length : family.words[w].at(i);
    }

    public int own(int s, int w) {
        if (!sealed || !reduction.machine.hasState(s)) {
            return NONE;
        }
        if (w == -1) {
            return family.ownSize[s];
        }
        return w >= 0 && w < family.ownSize[s] ? family.owned[s][w] : NONE;
    }

    public int suite(int method, int m) throws IllegalArgumentException, IllegalStateException, UnsupportedOperationException {
        if (method < 0 || method >= METHODS || m < 0 || m > MOST_MORE) {
            throw new IllegalArgumentException();
        }
        if (!sealed) {
            throw new IllegalStateException();
        }
        if (!spare.build(method, m)) {
            throw new UnsupportedOperationException();
        }
        Suite old = suite;
        suite = spare;
        spare = old;
        handTest = NONE;
        return suite.tests;
    }

    public int test(int w, int i, boolean expected) {
        if (!suite.hasTest(w)) {
            return NONE;
        }
        if (i == -1) {
            return suite.lengthOf(w);
        }
        if (i < 0 || i >= suite.lengthOf(w)) {
            return NONE;
        }
        return expected ? suite.outputAt(w, i) : suite.inputAt(w, i);
    }

    public void resize(int n) throws IllegalArgumentException, IllegalStateException {
        if (n < 1 || n > MOST_BUILT_STATES) {
            throw new IllegalArgumentException();
        }
        if (!sealed) {
            throw new IllegalStateException();
        }
        implementation.fitTo(n);
    }

    public void change(int s, int input, int next, int output) throws IllegalStateException, IllegalArgumentException {
        if (!sealed) {
            throw new IllegalStateException();
        }
        if (!implementation.allows(s, input, next, output)) {
            throw new IllegalArgumentException();
        }
        implementation.set(s, input, next, output);
    }

    public int run() throws IllegalStateException {
        if (!suite.isMade()) {
            throw new IllegalStateException();
        }
        int first = trial.firstFailure(suite, implementation);
        failedPlace = first == NONE ? NONE : trial.placeOf(suite, first);
        return first;
    }

    public int failed() {
        return failedPlace;
    }

    public int begin(int w) throws IllegalArgumentException {
        if (!suite.hasTest(w)) {
            throw new IllegalArgumentException();
        }
        handTest = w;
        handPlace = 0;
        return tellInput();
    }

    public int give(int output) throws IllegalStateException, IllegalArgumentException {
        if (handTest == NONE) {
            throw new IllegalStateException();
        }
        if (!specification.hasOutput(output)) {
            throw new IllegalArgumentException();
        }
        if (output != suite.outputAt(handTest, handPlace)) {
            handTest = NONE;
            return NOT_EXPECTED;
        }
        handPlace++;
        return tellInput();
    }

    public int same() throws IllegalStateException {
        if (!sealed) {
            throw new IllegalStateException();
        }
        search.find(implementation, 0, reduction.machine, 0);
        word.copy(search.found);
        return word.length;
    }

    public int covered() {
        return suite.isMade() ? suite.transitions() : 0;
    }

    public int look(int which) {
        switch (which) {
            case 0:
                return specification.states;
            case 1:
                return specification.inputs;
            case 2:
                return sealed ? 1 : 0;
            case 3:
                return reduction.machine.states;
            case 4:
                return suite.tests;
            case 5:
                return implementation.states;
            case 6:
                return suite.size;
            default:
                return NONE;
        }
    }

    /** The input of the test by hand that is due now; behind the last one the test is over. */
    private int tellInput() {
        if (handPlace < suite.lengthOf(handTest)) {
            return suite.inputAt(handTest, handPlace);
        }
        handTest = NONE;
        return NONE;
    }

    /** States and, for each with each input, a next state and an output. */
    private static final class Machine {
        final int inputs;
        final int[] nexts;
        final int[] outputs;
        int states;

        Machine(int room, int count, int inputs) {
            this.inputs = inputs;
            nexts = new int[room * inputs];
            outputs = new int[room * inputs];
            states = 0;
            fitTo(count);
        }

        boolean hasState(int s) {
            return s >= 0 && s < states;
        }

        boolean hasOutput(int output) {
            return output >= 0 && output < OUTPUTS;
        }

        boolean allows(int s, int input, int next, int output) {
            return hasState(s) && hasState(next) && input >= 0 && input < inputs && hasOutput(output);
        }

        void set(int s, int input, int next, int output) {
            nexts[s * inputs + input] = next;
            outputs[s * inputs + input] = output;
        }

        int next(int s, int input) {
            return nexts[s * inputs + input];
        }

        int output(int s, int input) {
            return outputs[s * inputs + input];
        }

        void copy(Machine other) {
            states = other.states;
            System.arraycopy(other.nexts, 0, nexts, 0, states * inputs);
            System.arraycopy(other.outputs, 0, outputs, 0, states * inputs);
        }

        /** States that it had stay, as far as they are among the n. */
        void fitTo(int n) {
            for (int s = 0; s < n; s++) {
                for (int input = 0; input < inputs; input++) {
                    if (s >= states) {
                        set(s, input, s, 0);
                    } else if (next(s, input) >= n) {
                        set(s, input, 0, output(s, input));
                    }
                }
            }
            states = n;
        }

        boolean tellsApart(Word by, int s, int t) {
            int one = s;
            int other = t;
            for (int i = 0; i < by.length; i++) {
                int input = by.letters[i];
                if (output(one, input) != output(other, input)) {
                    return true;
                }
                one = next(one, input);
                other = next(other, input);
            }
            return false;
        }
    }

    /** A row of inputs. */
    private static final class Word {
        // A least word never comes to the same pair of states twice, so it is no longer than there are pairs.
        final int[] letters = new int[PAIRS];
        int length = 0;

        int at(int i) {
            return i >= 0 && i < length ? letters[i] : NONE;
        }

        void copy(Word other) {
            length = other.length;
            System.arraycopy(other.letters, 0, letters, 0, length);
        }
    }

    /** Finds least words that tell apart, by going through the pairs of states in the order of the words to them. */
    private static final class PairSearch {
        final Word found = new Word();
        final int[] one = new int[PAIRS];
        final int[] other = new int[PAIRS];
        final int[] from = new int[PAIRS];
        final int[] by = new int[PAIRS];
        final int[] depth = new int[PAIRS];
        final boolean[] seen = new boolean[PAIRS];
        int reached = 0;

        /** Whether a word gives different rows from s of a and t of b: the least such word is found then, else the empty one. */
        boolean find(Machine a, int s, Machine b, int t) {
            forget();
            reach(s, t, NONE, NONE);
            for (int at = 0; at < PAIRS && at < reached; at++) {
                for (int input = 0; input < a.inputs; input++) {
                    if (a.output(one[at], input) != b.output(other[at], input)) {
                        spell(at, input);
                        return true;
                    }
                    reach(a.next(one[at], input), b.next(other[at], input), at, input);
                }
            }
            return false;
        }

        private void forget() {
            reached = 0;
            found.length = 0;
            for (int pair = 0; pair < PAIRS; pair++) {
                seen[pair] = false;
            }
        }

        private void reach(int s, int t, int before, int input) {
            int pair = s * MOST_BUILT_STATES + t;
            if (seen[pair]) {
                return;
            }
            seen[pair] = true;
            one[reached] = s;
            other[reached] = t;
            from[reached] = before;
            by[reached] = input;
            depth[reached] = before == NONE ? 0 : depth[before] + 1;
            reached++;
        }

        private void spell(int last, int input) {
            found.length = depth[last] + 1;
            found.letters[depth[last]] = input;
            int at = last;
            for (int i = depth[last] - 1; i >= 0; i--) {
                found.letters[i] = by[at];
                at = from[at];
            }
        }
    }

    /** The minimal machine, which of its states each state of the specification is alike to, and its access words. */
    private static final class Reduction {
        final Machine machine;
        final int[] number = new int[MOST_STATES];
        final int[] twin = new int[MOST_STATES];
        final int[] member = new int[MOST_STATES];
        // An access word is that of an earlier state with one input more.
        final int[] earlier = new int[MOST_STATES];
        final int[] by = new int[MOST_STATES];

        Reduction(int inputs) {
            machine = new Machine(MOST_STATES, 0, inputs);
        }

        void reduce(Machine whole, int start, PairSearch search) {
            findTwins(whole, search);
            for (int s = 0; s < whole.states; s++) {
                number[s] = NONE;
            }
            addState(twin[start], NONE, NONE);
            for (int i = 0; i < MOST_STATES && i < machine.states; i++) {
                for (int input = 0; input < whole.inputs; input++) {
                    int next = twin[whole.next(member[i], input)];
                    if (number[next] == NONE) {
                        addState(next, i, input);
                    }
                    machine.set(i, input, number[next], whole.output(member[i], input));
                }
            }
            for (int s = 0; s < whole.states; s++) {
                number[s] = number[twin[s]];
            }
        }

        boolean isAccess(int i, int input) {
            int next = machine.next(i, input);
            return earlier[next] == i && by[next] == input;
        }

        /** The twin of a state is the first one that is alike to it. */
        private void findTwins(Machine whole, PairSearch search) {
            for (int s = 0; s < whole.states; s++) {
                twin[s] = s;
                for (int t = s - 1; t >= 0; t--) {
                    if (!search.find(whole, s, whole, t)) {
                        twin[s] = t;
                    }
                }
            }
        }

        private void addState(int s, int before, int input) {
            int added = machine.states;
            machine.states = added + 1;
            number[s] = added;
            member[added] = s;
            earlier[added] = before;
            by[added] = input;
        }
    }

    /** The family of words that tell all minimal states apart, and the own words of each. */
    private static final class Family {
        // Each word splits at least one group of states that were together, so there are fewer words than states.
        final Word[] words = new Word[MOST_STATES];
        final int[][] owned = new int[MOST_STATES][MOST_STATES];
        final int[] ownSize = new int[MOST_STATES];
        int size = 0;

        Family() {
            for (int w = 0; w < words.length; w++) {
                words[w] = new Word();
            }
        }

        boolean has(int w) {
            return w >= 0 && w < size;
        }

        void choose(Machine machine, PairSearch search) {
            for (int i = 0; i < machine.states; i++) {
                for (int j = i + 1; j < machine.states; j++) {
                    if (firstWord(machine, i, j) == NONE && search.find(machine, i, machine, j)) {
                        words[size].copy(search.found);
                        size++;
                    }
                }
            }
            for (int i = 0; i < machine.states; i++) {
                chooseOwn(machine, i);
            }
        }

        private void chooseOwn(Machine machine, int i) {
            for (int j = 0; j < machine.states; j++) {
                if (j != i && !ownTells(machine, i, j)) {
                    owned[i][ownSize[i]] = firstWord(machine, i, j);
                    ownSize[i]++;
                }
            }
        }

        private boolean ownTells(Machine machine, int i, int j) {
            for (int w = 0; w < ownSize[i]; w++) {
                if (machine.tellsApart(words[owned[i][w]], i, j)) {
                    return true;
                }
            }
            return false;
        }

        private int firstWord(Machine machine, int i, int j) {
            for (int w = 0; w < size; w++) {
                if (machine.tellsApart(words[w], i, j)) {
                    return w;
                }
            }
            return NONE;
        }
    }

    /** A suite as the tree of all beginnings of its words; the tests are its leaves. */
    private static final class Suite {
        final Reduction reduction;
        final Machine machine;
        final Family family;
        final int[] children;
        final int[] above = new int[MOST_BEGINNINGS];
        final int[] by = new int[MOST_BEGINNINGS];
        final int[] depth = new int[MOST_BEGINNINGS];
        final int[] state = new int[MOST_BEGINNINGS];
        final int[] leaves = new int[MOST_BEGINNINGS];
        final int[] open = new int[MOST_BEGINNINGS];
        final int[] access = new int[MOST_STATES];
        // All words of at most MOST_MORE inputs behind one beginning.
        final int[] reach = new int[1 + MOST_INPUTS + MOST_INPUTS * MOST_INPUTS];
        int size = 0;
        int tests = 0;
        boolean fits = false;

        Suite(Reduction reduction, Family family) {
            this.reduction = reduction;
            this.family = family;
            machine = reduction.machine;
            children = new int[MOST_BEGINNINGS * machine.inputs];
        }

        boolean isMade() {
            return size > 0;
        }

        boolean hasTest(int w) {
            return w >= 0 && w < tests;
        }

        int lengthOf(int w) {
            return depth[leaves[w]];
        }

        int inputAt(int w, int i) {
            return by[behindInput(w, i)];
        }

        int outputAt(int w, int i) {
            return outputInto(behindInput(w, i));
        }

        /** What the specification gives for the last input of a beginning. */
        int outputInto(int node) {
            return machine.output(state[above[node]], by[node]);
        }

        int transitions() {
            int seen = 0;
            for (int node = ROOT + 1; node < size; node++) {
                seen |= 1 << (state[above[node]] * machine.inputs + by[node]);
            }
            return Integer.bitCount(seen);
        }

        boolean build(int method, int m) {
            size = 0;
            tests = 0;
            fits = true;
            addNode(NONE, NONE, 0);
            for (int i = 0; i < machine.states; i++) {
                access[i] = i == 0 ? ROOT : enter(access[reduction.earlier[i]], reduction.by[i]);
                grow(access[i], m, false);
            }
            for (int i = 0; i < machine.states; i++) {
                for (int input = 0; input < machine.inputs; input++) {
                    if (!reduction.isAccess(i, input)) {
                        grow(enter(access[i], input), m, method == 1);
                    }
                }
            }
            if (fits) {
                orderTests();
            }
            return fits;
        }

        /** Adds all y z behind a beginning: with ownOnly y of just m inputs and own words z, else y of at most m and the family. */
        private void grow(int node, int m, boolean ownOnly) {
            int first = 0;
            int end = 1;
            reach[0] = node;
            for (int length = 0; fits && length <= m; length++) {
                int added = end;
                for (int at = first; at < end; at++) {
                    if (!ownOnly) {
                        addFamily(reach[at]);
                    } else if (length == m) {
                        addOwn(reach[at]);
                    }
                    for (int input = 0; length < m && input < machine.inputs; input++) {
                        reach[added] = enter(reach[at], input);
                        added++;
                    }
                }
                first = end;
                end = added;
            }
        }

        private void addFamily(int node) {
            for (int w = 0; w < family.size; w++) {
                addWord(node, family.words[w]);
            }
        }

        private void addOwn(int node) {
            int s = state[node];
            for (int w = 0; w < family.ownSize[s]; w++) {
                addWord(node, family.words[family.owned[s][w]]);
            }
        }

        private void addWord(int node, Word added) {
            int at = node;
            for (int i = 0; i < added.length; i++) {
                at = enter(at, added.letters[i]);
            }
        }

        /** The beginning with one input more. When there is no room for it the suite does not fit, and any answer will do. */
        private int enter(int node, int input) {
            int slot = node * machine.inputs + input;
            if (children[slot] == NONE) {
                if (size == MOST_BEGINNINGS) {
                    fits = false;
                    return node;
                }
                children[slot] = size;
                addNode(node, input, machine.next(state[node], input));
            }
            return children[slot];
        }

        private void addNode(int before, int input, int reached) {
            above[size] = before;
            by[size] = input;
            depth[size] = before == NONE ? 0 : depth[before] + 1;
            state[size] = reached;
            for (int next = 0; next < machine.inputs; next++) {
                children[size * machine.inputs + next] = NONE;
            }
            size++;
        }

        private void orderTests() {
            int opened = 1;
            open[0] = ROOT;
            for (int visits = 0; visits < size && opened > 0; visits++) {
                opened--;
                int node = open[opened];
                int before = opened;
                // The least input goes on last, to come off first.
                for (int input = machine.inputs - 1; input >= 0; input--) {
                    int child = children[node * machine.inputs + input];
                    if (child != NONE) {
                        open[opened] = child;
                        opened++;
                    }
                }
                if (opened == before) {
                    leaves[tests] = node;
                    tests++;
                }
            }
        }

        private int behindInput(int w, int i) {
            int node = leaves[w];
            for (int at = depth[node]; at > i + 1; at--) {
                node = above[node];
            }
            return node;
        }
    }

    /** An implementation's way through a suite, each beginning gone only once. */
    private static final class Trial {
        final int[] state = new int[MOST_BEGINNINGS];
        final int[] wrong = new int[MOST_BEGINNINGS];

        int firstFailure(Suite tried, Machine built) {
            state[ROOT] = 0;
            wrong[ROOT] = NONE;
            // A beginning always stands behind the shorter one that it is made of.
            for (int node = ROOT + 1; node < tried.size; node++) {
                step(tried, built, node);
            }
            for (int w = 0; w < tried.tests; w++) {
                if (placeOf(tried, w) != NONE) {
                    return w;
                }
            }
            return NONE;
        }

        int placeOf(Suite tried, int w) {
            return wrong[tried.leaves[w]];
        }

        private void step(Suite tried, Machine built, int node) {
            int before = tried.above[node];
            int input = tried.by[node];
            state[node] = built.next(state[before], input);
            wrong[node] = wrong[before];
            if (wrong[before] == NONE && built.output(state[before], input) != tried.outputInto(node)) {
                wrong[node] = tried.depth[node] - 1;
            }
        }
    }
}
