import java.util.function.IntSupplier;

/** The boundary cases that the document names in "What it is" and "Terms"; each one has a method with its sentence above it. */
public final class TermsBoundaryTest {
    private TermsBoundaryTest() {
    }

    public static void main(String[] args) {
        none();
        lastPromisedCall();
        whereNothingWasSaid();
        shorterWordsAreLess();
        firstInputThatDiffersDecides();
        emptyWordIsTheLeast();
        alikeOnlyIfEveryWordGivesTheSame();
        onlyReachedStatesAreMinimal();
        numbersFollowTheLeastWords();
        familyAtFirstEmpty();
        familyOnlyGrowsByNeed();
        fullFamily();
        ownWords();
        suitesOfOneState();
        suitesOfOneInput();
        suitesByMethod();
        noTestIsABeginningOfAnother();
        suiteFits();
        implementationOfTenStates();
        implementationAtFirst();
        implementationStartsAtZero();
        failsAtTheFirstPlace();
        Check.finish("TermsBoundaryTest");
    }

    /** "NONE = -1: There is none." */
    private static void none() {
        Check.due("NONE", -1, TestBench.NONE);
    }

    /** "An object is used for at most 512 calls after it has been made": so the 512th one of every kind must still be right. */
    private static void lastPromisedCall() {
        lastCall("edge", Check.ISE, x -> done(() -> x.edge(0, 0, 0, 0)));
        lastCall("wrong edge", Check.IAE, x -> done(() -> x.edge(5, 0, 0, 0)));
        lastCall("start", Check.ISE, x -> done(() -> x.start(0)));
        lastCall("seal", Check.ISE, x -> x::seal);
        lastCall("minimal", 1, x -> () -> x.minimal(3));
        lastCall("apart", 1, x -> () -> x.apart(3, 4));
        lastCall("word", 1, x -> () -> x.word(0));
        lastCall("family", 1, x -> () -> x.family(0, 0));
        lastCall("own", 0, x -> () -> x.own(2, 0));
        lastCall("suite", 8, x -> () -> x.suite(0, 1));
        lastCall("test", 2, x -> () -> x.test(1, 2, true));
        lastCall("resize", 0, x -> done(() -> x.resize(1)));
        lastCall("wrong resize", Check.IAE, x -> done(() -> x.resize(11)));
        lastCall("change", 0, x -> done(() -> x.change(9, 1, 9, 3)));
        lastCall("wrong change", Check.IAE, x -> done(() -> x.change(10, 1, 9, 3)));
        lastCall("run", TestBench.NONE, x -> x::run);
        lastCall("failed", 1, x -> x::failed);
        lastCall("begin", 1, x -> () -> x.begin(3));
        lastCall("give", 1, x -> () -> x.give(0));
        lastCall("same", 0, x -> x::same);
        lastCall("covered", 6, x -> x::covered);
        lastCall("look", 10, x -> () -> x.look(5));
    }

    private interface Last {
        IntSupplier of(TestBench x);
    }

    private static IntSupplier done(Runnable call) {
        return () -> {
            call.run();
            return 0;
        };
    }

    private static void lastCall(String name, int want, Last last) {
        TestBench x = Examples.ladder();
        // Ten edges and seal() are 11 calls; 50 rounds of 10 more make 511.
        for (int round = 0; round < 50; round++) {
            x.suite(1, 2);
            x.suite(0, 0);
            x.resize(10);
            x.change(0, 1, 1, 0);
            Check.due("run() in round " + round, 3, x.run());
            Check.due("same() in round " + round, 2, x.same());
            x.change(0, 1, 0, 0);
            x.apart(0, 1);
            x.begin(1);
            Check.due("give(0) in round " + round, 0, x.give(0));
        }
        Check.due(name + " as the 512th call", want, last.of(x));
    }

    /** "where nothing was said the next state is the state itself and the output 0" */
    private static void whereNothingWasSaid() {
        TestBench x = Examples.sealed(2, 2, new int[][] {{0, 0, 1, 1}});
        x.suite(0, 0);
        Check.dueText("tests", "000 010 10", Examples.inputs(x));
        Check.dueText("outputs where little was said", "100 100 01", Examples.outputs(x));
        TestBench said = Examples.sealed(2, 2, new int[][] {{0, 0, 1, 1}, {0, 1, 0, 0}, {1, 0, 1, 0}, {1, 1, 1, 0}});
        said.suite(0, 0);
        Check.dueText("outputs where the same was said", "100 100 01", Examples.outputs(said));
        TestBench mute = new TestBench(8, 3);
        Check.due("where nothing at all was said all states are alike", 1, mute.seal());
        Check.dueText("all are alike to the start", "0 0 0 0 0 0 0 0", Examples.numbers(mute));
        TestBench last = Examples.sealed(8, 3, new int[][] {{0, 2, 7, 0}, {7, 2, 7, 1}});
        Check.due("one thing said of the last state", 1, last.apart(0, 7));
        Check.due("nothing said of two others", 0, last.apart(5, 6));
    }

    /** "Words are ordered by length" */
    private static void shorterWordsAreLess() {
        int[][] both = {{0, 0, 2, 0}, {1, 0, 3, 0}, {2, 0, 2, 1}, {0, 2, 0, 1}};
        TestBench x = Examples.sealed(4, 3, both);
        Check.due("2 is less than 00", 1, x.apart(0, 1));
        Check.dueText("2 is less than 00", "2", Examples.word(x));
        int[][] longer = {{0, 0, 2, 0}, {1, 0, 3, 0}, {2, 0, 2, 1}};
        TestBench y = Examples.sealed(4, 3, longer);
        Check.due("without 2 it is 00", 2, y.apart(0, 1));
        Check.dueText("without 2 it is 00", "00", Examples.word(y));
    }

    /** "those of the same length by their first input that differs" */
    private static void firstInputThatDiffersDecides() {
        TestBench one = Examples.sealed(2, 3, new int[][] {{0, 1, 0, 1}, {0, 2, 0, 1}});
        one.apart(0, 1);
        Check.dueText("1 is less than 2", "1", Examples.word(one));
        int[][] ways = {{0, 0, 2, 0}, {0, 1, 3, 0}, {1, 0, 4, 0}, {1, 1, 5, 0}, {2, 1, 2, 1}, {3, 0, 3, 1}};
        TestBench x = Examples.sealed(6, 2, ways);
        x.apart(0, 1);
        Check.dueText("01 is less than 10", "01", Examples.word(x));
        int[][] oneWay = {{0, 0, 2, 0}, {0, 1, 3, 0}, {1, 0, 4, 0}, {1, 1, 5, 0}, {3, 0, 3, 1}, {3, 1, 3, 1}};
        TestBench y = Examples.sealed(6, 2, oneWay);
        y.apart(0, 1);
        Check.dueText("10 is less than 11", "10", Examples.word(y));
    }

    /** "the EMPTY word is the least": it leads to the start, and is a beginning of every word. */
    private static void emptyWordIsTheLeast() {
        TestBench x = Examples.open(3, 2, Examples.FORK);
        x.start(2);
        x.seal();
        Check.dueText("the start is 0 wherever it is", "-1 -1 0", Examples.numbers(x));
        TestBench least = new TestBench(1, 1);
        least.seal();
        Check.due("the least suite", 1, least.suite(0, 0));
        Check.due("its beginnings are the empty one and 0", 2, least.look(6));
    }

    /** "two of its states are ALIKE if every word gives the same from both" */
    private static void alikeOnlyIfEveryWordGivesTheSame() {
        TestBench row = Examples.open(8, 1, Examples.ROW);
        Check.due("states that only a word of 7 inputs tells apart", 8, row.seal());
        Check.due("that word", 7, row.apart(0, 1));
        TestBench mute = Examples.open(8, 1, Examples.ROW);
        mute.edge(7, 0, 7, 0);
        Check.due("without the output at the end of the row", 1, mute.seal());
        Check.due("no word then", 0, mute.apart(0, 1));
        int[][] twice = {{0, 0, 1, 1}, {1, 0, 2, 0}, {2, 0, 3, 1}, {3, 0, 2, 0}};
        TestBench x = Examples.open(4, 1, twice);
        Check.due("a reached state that is alike to an earlier one is no new one", 2, x.seal());
        Check.dueText("alike states have one number", "0 1 0 1", Examples.numbers(x));
    }

    /** "of those that can be reached from the start" */
    private static void onlyReachedStatesAreMinimal() {
        int[][] island = {{1, 0, 2, 1}, {2, 0, 1, 2}};
        TestBench x = Examples.open(3, 2, island);
        Check.due("states that only unreached ones lead to", 1, x.seal());
        Check.dueText("they have no number", "0 -1 -1", Examples.numbers(x));
        TestBench bridged = Examples.open(3, 2, island);
        bridged.edge(0, 1, 2, 0);
        Check.due("with one way to them", 3, bridged.seal());
        Check.dueText("they have numbers", "0 2 1", Examples.numbers(bridged));
        TestBench twin = Examples.open(3, 2, island);
        twin.start(2);
        twin.edge(0, 0, 1, 2);
        Check.due("from the start 2", 2, twin.seal());
        Check.dueText("an unreached state alike to a reached one", "0 1 0", Examples.numbers(twin));
    }

    /** "numbered in the order of the least words that lead to them (the start is 0)" */
    private static void numbersFollowTheLeastWords() {
        int[][] edges = {
            {4, 0, 2, 0}, {4, 1, 0, 0}, {2, 0, 1, 0}, {2, 1, 4, 1}, {0, 1, 3, 2}, {1, 1, 3, 3}, {3, 0, 3, 1},
        };
        TestBench x = Examples.open(5, 2, edges);
        x.start(4);
        Check.due("all are reached", 5, x.seal());
        // 4 by the empty word, 2 by 0, 0 by 1, 1 by 00, 3 by 11 and not by 001.
        Check.dueText("1 leads before 00", "2 3 1 4 0", Examples.numbers(x));
        TestBench other = Examples.open(5, 2, edges);
        other.start(4);
        other.edge(0, 1, 0, 2);
        other.edge(0, 0, 3, 0);
        other.seal();
        Check.dueText("10 leads behind 00", "2 3 1 4 0", Examples.numbers(other));
        TestBench earlier = Examples.open(5, 2, edges);
        earlier.start(4);
        earlier.edge(2, 0, 3, 0);
        earlier.edge(0, 1, 1, 2);
        earlier.seal();
        Check.dueText("the state by 00 comes before the one by 11", "2 4 1 3 0", Examples.numbers(earlier));
    }

    /** "The FAMILY is a row of words, at first empty" */
    private static void familyAtFirstEmpty() {
        TestBench one = new TestBench(8, 3);
        one.seal();
        Check.due("the family of one minimal state", 0, one.family(-1, -1));
        Check.due("the own words of one minimal state", 0, one.own(0, -1));
        TestBench two = Examples.sealed(2, 3, new int[][] {{0, 0, 1, 0}, {1, 2, 0, 3}});
        Check.dueText("the family of two minimal states", "2", Examples.family(two));
        Check.dueText("own words of the first", "0", Examples.own(two, 0));
        Check.dueText("own words of the second", "0", Examples.own(two, 1));
    }

    /** "for each pair i < j ..., by rising i, then j: if no word of it tells them apart, the least word that does goes to its end" */
    private static void familyOnlyGrowsByNeed() {
        Check.dueText("one word tells all of the ladder apart", "1", Examples.family(Examples.ladder()));
        Check.dueText("the fork needs one word more", "0 1", Examples.family(Examples.fork()));
        Check.dueText("a long word told first stays the only one", "0000000", Examples.family(Examples.sealed(8, 1, Examples.ROW)));
    }

    /** The same sentence where every word tells only one state from the others: the family is as large as it can be. */
    private static void fullFamily() {
        TestBench x = Examples.sealed(8, 2, Examples.RING);
        Check.dueText("seven words for eight states", "00001 0001 001 01 1 000001 0000001", Examples.family(x));
        Check.due("word 6 of it", 7, x.family(6, -1));
        Check.due("its last input", 1, x.family(6, 6));
        Check.due("behind its last input", TestBench.NONE, x.family(6, 7));
        Check.due("word 7", TestBench.NONE, x.family(7, -1));
    }

    /** "for each other one j by rising numbers, if none of the words chosen so far tells them apart, the first one of the FAMILY that does" */
    private static void ownWords() {
        TestBench ring = Examples.sealed(8, 2, Examples.RING);
        Check.dueText("own words of a state that one word tells from all", "0", Examples.own(ring, 1));
        Check.dueText("own words of a state that needs one for each other", "5 0 1 2 3 4 6", Examples.own(ring, 6));
        Check.dueText("own words of a state that shares one", "0 1 2 3 4 5", Examples.own(ring, 0));
        Check.due("own word 6 of state 6", 6, ring.own(6, 6));
        Check.due("own word 7 of state 6", TestBench.NONE, ring.own(6, 7));
        TestBench fork = Examples.fork();
        Check.dueText("own words of the fork's start", "0 1", Examples.own(fork, 0));
        Check.dueText("own words of the fork's state 1", "0", Examples.own(fork, 1));
        Check.dueText("own words of the fork's state 2", "1", Examples.own(fork, 2));
    }

    /** "z in the FAMILY (or the empty one)", "y of at most m inputs", "y of just m inputs": with one state all words of m + 1 inputs are tests. */
    private static void suitesOfOneState() {
        int[][] tests = {{1, 1, 1}, {2, 4, 8}, {3, 9, 27}};
        int[][] beginnings = {{2, 3, 4}, {3, 7, 15}, {4, 13, 40}};
        for (int k = 1; k <= 3; k++) {
            TestBench x = new TestBench(1, k);
            x.seal();
            for (int m = 0; m <= 2; m++) {
                for (int method = 0; method <= 1; method++) {
                    String name = "suite(" + method + ", " + m + ") of one state with " + k + " inputs";
                    Check.due(name, tests[k - 1][m], x.suite(method, m));
                    Check.due(name + ": beginnings", beginnings[k - 1][m], x.look(6));
                    Check.due(name + ": length", m + 1, x.test(0, -1, false));
                    Check.due(name + ": length of the last", m + 1, x.test(tests[k - 1][m] - 1, -1, false));
                }
            }
        }
    }

    /** With one input there is one test: the last access word, one input more, m more, and the longest word of the family. */
    private static void suitesOfOneInput() {
        TestBench x = Examples.sealed(8, 1, Examples.ROW);
        for (int m = 0; m <= 2; m++) {
            for (int method = 0; method <= 1; method++) {
                String name = "suite(" + method + ", " + m + ") of the row";
                Check.due(name, 1, x.suite(method, m));
                Check.due(name + ": length", 15 + m, x.test(0, -1, false));
                Check.due(name + ": beginnings", 16 + m, x.look(6));
                Check.dueText(name + ": outputs", "00000001111111111".substring(0, 15 + m), Examples.outputs(x));
            }
        }
    }

    /** "A SUITE for m more states, m being 0 .. 2, has METHOD 0, 1": the family behind every x of method 0, own words behind B of method 1. */
    private static void suitesByMethod() {
        int[][][] want = {{{8, 15}, {16, 31}, {32, 63}}, {{4, 11}, {8, 23}, {16, 47}}};
        TestBench x = Examples.fork();
        for (int method = 0; method <= 1; method++) {
            for (int m = 0; m <= 2; m++) {
                String name = "suite(" + method + ", " + m + ") of the fork";
                Check.due(name, want[method][m][0], x.suite(method, m));
                Check.due(name + ": beginnings", want[method][m][1], x.look(6));
            }
        }
        x.suite(0, 0);
        Check.dueText("method 0", "000 001 010 011 100 101 110 111", Examples.inputs(x));
        x.suite(1, 0);
        Check.dueText("method 1", "000 010 101 111", Examples.inputs(x));
        Check.dueText("its outputs", "011 001 001 011", Examples.outputs(x));
        x.suite(1, 1);
        Check.dueText("method 1 for one state more", "0000 0010 0100 0110 1001 1011 1101 1111", Examples.inputs(x));
    }

    /** "TESTS are those of these words that are no beginning of another one of them, all different, ordered by their first input that differs" */
    private static void noTestIsABeginningOfAnother() {
        ordered("the ladder", Examples.ladder(), 0, 2);
        ordered("the ladder", Examples.ladder(), 1, 2);
        ordered("the fork", Examples.fork(), 0, 2);
        ordered("the fork", Examples.fork(), 1, 2);
        ordered("the ring", Examples.sealed(8, 2, Examples.RING), 1, 0);
        ordered("one too many", Examples.sealed(5, 3, Examples.ONE_TOO_MANY), 0, 0);
    }

    private static void ordered(String name, TestBench x, int method, int m) {
        x.suite(method, m);
        String[] tests = Examples.inputs(x).split(" ");
        for (int w = 1; w < tests.length; w++) {
            String before = tests[w - 1];
            String behind = tests[w];
            int shared = 0;
            while (shared < before.length() && shared < behind.length() && before.charAt(shared) == behind.charAt(shared)) {
                shared++;
            }
            boolean differ = shared < before.length() && shared < behind.length();
            Check.due(name + ": tests " + before + " and " + behind, 1, differ && before.charAt(shared) < behind.charAt(shared) ? 1 : 0);
        }
    }

    /** "The suite FITS if all beginnings of its words (with the words themselves and the empty one) are at most 800 different ones." */
    private static void suiteFits() {
        fits(8, 3, 0, 1, 800, new int[][] {{0, 0, 1, 0}, {0, 1, 2, 0}, {1, 2, 3, 0}, {2, 0, 3, 0}, {3, 0, 4, 0}, {4, 0, 5, 0}, {5, 0, 6, 0}, {6, 1, 6, 1}, {6, 2, 7, 0}, {7, 2, 4, 0}});
        fits(8, 3, 0, 1, 801, new int[][] {{0, 0, 1, 0}, {0, 2, 2, 0}, {2, 0, 3, 0}, {2, 1, 6, 0}, {3, 1, 5, 0}, {4, 0, 5, 0}, {5, 0, 6, 0}, {6, 0, 7, 0}, {6, 2, 4, 0}, {7, 2, 7, 1}});
        fits(8, 2, 0, 2, 800, new int[][] {{0, 0, 1, 0}, {1, 1, 3, 0}, {2, 1, 4, 0}, {3, 1, 2, 0}, {4, 0, 5, 0}, {5, 0, 6, 0}, {6, 0, 7, 1}});
        // No machine with 801 .. 807 was found for suite(0, 2).
        fits(5, 3, 0, 2, 808, new int[][] {{0, 2, 3, 0}, {2, 1, 1, 0}, {2, 2, 4, 0}, {3, 0, 4, 0}, {4, 1, 2, 1}});
        fits(8, 3, 1, 1, 800, new int[][] {{0, 0, 5, 0}, {0, 2, 1, 1}, {1, 0, 2, 0}, {1, 1, 3, 0}, {2, 0, 3, 0}, {3, 0, 4, 0}, {4, 1, 6, 0}, {6, 0, 7, 0}, {6, 2, 4, 0}, {7, 0, 0, 0}});
        fits(8, 3, 1, 1, 801, new int[][] {{0, 0, 1, 1}, {1, 0, 2, 0}, {1, 1, 3, 0}, {1, 2, 5, 0}, {2, 0, 3, 0}, {2, 1, 5, 0}, {3, 0, 4, 0}, {3, 1, 1, 0}, {5, 0, 6, 0}, {6, 0, 7, 0}, {7, 2, 0, 0}});
        fits(5, 3, 1, 2, 800, Examples.JUST_FITS);
        fits(5, 3, 1, 2, 801, Examples.ONE_TOO_MANY);
    }

    private static void fits(int n, int k, int method, int m, int beginnings, int[][] edges) {
        Reference counted = new Reference(n, k);
        for (int[] e : edges) {
            counted.edge(e[0], e[1], e[2], e[3]);
        }
        counted.seal();
        String name = "suite(" + method + ", " + m + ") of " + beginnings + " beginnings";
        Check.due(name + ": counted plainly", beginnings, counted.countBeginnings(method, m));
        TestBench x = Examples.sealed(n, k, edges);
        if (beginnings > 800) {
            Check.due(name, Check.UOE, () -> x.suite(method, m));
            Check.due(name + ": beginnings", 0, x.look(6));
            Check.due(name + ": tests", 0, x.look(4));
        } else {
            Check.due(name, counted.suite(method, m), () -> x.suite(method, m));
            Check.due(name + ": beginnings", beginnings, x.look(6));
            Check.due(name + ": the implementation passes", TestBench.NONE, x.run());
            Check.due(name + ": transitions", x.look(3) * k, x.covered());
        }
    }

    /** "THE IMPLEMENTATION is another machine of at most 10 states and the same inputs" */
    private static void implementationOfTenStates() {
        TestBench x = Examples.ladder();
        Check.dueOf("ten states", 0, () -> x.resize(10));
        Check.dueOf("the tenth state", 0, () -> x.change(9, 1, 9, 3));
        Check.dueOf("an eleventh state", Check.IAE, () -> x.change(10, 1, 9, 3));
        Check.dueOf("a next state that is the eleventh", Check.IAE, () -> x.change(9, 1, 10, 3));
        Check.dueOf("eleven states", Check.IAE, () -> x.resize(11));
        Check.due("still ten", 10, x.look(5));
        Check.dueOf("a third input", Check.IAE, () -> x.change(9, 2, 9, 3));
    }

    /** "at first the minimal machine" */
    private static void implementationAtFirst() {
        TestBench x = Examples.ladder();
        Check.due("as many states as the minimal machine", 3, x.look(5));
        Check.due("it does the same", 0, x.same());
        TestBench none = Examples.open(5, 2, Examples.LADDER);
        Check.due("none before seal", 0, none.look(5));
    }

    /** "with the start 0": that of the specification may be another state. */
    private static void implementationStartsAtZero() {
        TestBench x = Examples.open(5, 2, Examples.LADDER);
        x.start(3);
        x.seal();
        Check.due("the minimal start is 0, too", 0, x.same());
        x.change(0, 1, 2, 3);
        Check.due("a change at 0 is seen at once", 1, x.same());
        x.change(0, 1, 2, 1);
        Check.due("the change taken back", 0, x.same());
        x.resize(1);
        Check.due("state 0 is left", 1, x.look(5));
        Check.due("and gives what it gave first", 2, x.same());
        Check.dueText("the word behind that", "01", Examples.word(x));
    }

    /** "It FAILS a test at the first place where its output is not that of the specification; it PASSES the suite if it fails none." */
    private static void failsAtTheFirstPlace() {
        TestBench x = Examples.ladder();
        x.suite(0, 0);
        Check.due("it passes", TestBench.NONE, x.run());
        x.change(2, 1, 1, 3);
        Check.due("wrong at the last place of test 0", 0, x.run());
        Check.due("that place", 3, x.failed());
        x.change(2, 0, 2, 3);
        Check.due("wrong at two places", 0, x.run());
        Check.due("the first of them", 2, x.failed());
        x.change(0, 0, 1, 1);
        Check.due("wrong at the first place, too", 0, x.run());
        Check.due("that place", 0, x.failed());
        x.change(2, 1, 1, 2);
        x.change(2, 0, 2, 0);
        x.change(0, 0, 1, 0);
        Check.due("it passes again", TestBench.NONE, x.run());
    }
}
