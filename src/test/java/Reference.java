import java.util.ArrayList;
import java.util.HashSet;
import java.util.LinkedHashSet;
import java.util.List;
import java.util.Set;
import java.util.TreeSet;

/** The document's terms written down as they stand, with words as texts and without any thought of cost. */
final class Reference {
    private record Table(int[][] next, int[][] out) {
    }

    private final int n;
    private final int k;
    private final Table spec;
    private int start = 0;
    private boolean sealed = false;
    private Table small;
    private final List<String> access = new ArrayList<>();
    private final int[] number;
    private final List<String> family = new ArrayList<>();
    private final List<List<Integer>> own = new ArrayList<>();
    private Table built;
    private String word = "";
    private List<String> tests = null;
    private int beginnings = 0;
    private int failed = -1;
    private String hand = null;
    private int place = 0;

    Reference(int n, int k) {
        this.n = n < 1 ? 1 : n > 8 ? 8 : n;
        this.k = k < 1 ? 1 : k > 3 ? 3 : k;
        spec = new Table(new int[this.n][this.k], new int[this.n][this.k]);
        for (int s = 0; s < this.n; s++) {
            java.util.Arrays.fill(spec.next[s], s);
        }
        number = new int[this.n];
    }

    private static void need(boolean good) {
        if (!good) {
            throw new IllegalArgumentException();
        }
    }

    private static void allow(boolean good) {
        if (!good) {
            throw new IllegalStateException();
        }
    }

    private static boolean in(int x, int end) {
        return x >= 0 && x < end;
    }

    void edge(int s, int input, int next, int output) {
        need(in(s, n) && in(next, n) && in(input, k) && in(output, 4));
        allow(!sealed);
        spec.next[s][input] = next;
        spec.out[s][input] = output;
    }

    void start(int s) {
        need(in(s, n));
        allow(!sealed);
        start = s;
    }

    int seal() {
        allow(!sealed);
        sealed = true;
        List<Integer> members = new ArrayList<>();
        for (String w : wordsUpTo(n - 1)) {
            int s = goal(spec, start, w);
            if (members.stream().noneMatch(t -> leastWord(spec, s, t).isEmpty())) {
                members.add(s);
                access.add(w);
            }
        }
        for (int s = 0; s < n; s++) {
            number[s] = numberOf(s, members);
        }
        int size = members.size();
        small = new Table(new int[size][k], new int[size][k]);
        for (int i = 0; i < size; i++) {
            for (int a = 0; a < k; a++) {
                small.next[i][a] = number[spec.next[members.get(i)][a]];
                small.out[i][a] = spec.out[members.get(i)][a];
            }
        }
        chooseFamily(size);
        built = resized(small, size);
        return size;
    }

    private int numberOf(int s, List<Integer> members) {
        for (int i = 0; i < members.size(); i++) {
            if (leastWord(spec, s, members.get(i)).isEmpty()) {
                return i;
            }
        }
        return -1;
    }

    private void chooseFamily(int size) {
        for (int i = 0; i < size; i++) {
            for (int j = i + 1; j < size; j++) {
                if (firstThatTells(i, j) < 0) {
                    family.add(leastWord(small, i, j));
                }
            }
        }
        for (int i = 0; i < size; i++) {
            List<Integer> chosen = new ArrayList<>();
            for (int j = 0; j < size; j++) {
                int one = i;
                int other = j;
                if (i != j && chosen.stream().noneMatch(w -> tells(small, family.get(w), one, other))) {
                    chosen.add(firstThatTells(i, j));
                }
            }
            own.add(chosen);
        }
    }

    private int firstThatTells(int i, int j) {
        for (int w = 0; w < family.size(); w++) {
            if (tells(small, family.get(w), i, j)) {
                return w;
            }
        }
        return -1;
    }

    int minimal(int s) {
        return sealed && in(s, n) ? number[s] : -1;
    }

    int apart(int s, int t) {
        need(in(s, n) && in(t, n));
        allow(sealed);
        word = leastWord(spec, s, t);
        return word.length();
    }

    int word(int i) {
        return letter(word, i);
    }

    int family(int w, int i) {
        if (!sealed) {
            return -1;
        }
        if (w == -1) {
            return family.size();
        }
        if (!in(w, family.size())) {
            return -1;
        }
        return i == -1 ? family.get(w).length() : letter(family.get(w), i);
    }

    int own(int s, int w) {
        if (!sealed || !in(s, own.size())) {
            return -1;
        }
        if (w == -1) {
            return own.get(s).size();
        }
        return in(w, own.get(s).size()) ? own.get(s).get(w) : -1;
    }

    int suite(int method, int m) {
        need(in(method, 2) && in(m, 3));
        allow(sealed);
        Set<String> words = suiteWords(method, m);
        Set<String> starts = beginningsOf(words);
        if (starts.size() > 800) {
            throw new UnsupportedOperationException();
        }
        Set<String> continued = new HashSet<>();
        for (String w : starts) {
            if (!w.isEmpty()) {
                continued.add(w.substring(0, w.length() - 1));
            }
        }
        tests = new ArrayList<>();
        for (String w : new TreeSet<>(words)) {
            if (!continued.contains(w)) {
                tests.add(w);
            }
        }
        beginnings = starts.size();
        hand = null;
        return tests.size();
    }

    /** How many beginnings a suite has, whether it fits or not. */
    int countBeginnings(int method, int m) {
        return beginningsOf(suiteWords(method, m)).size();
    }

    private static Set<String> beginningsOf(Set<String> words) {
        Set<String> starts = new HashSet<>();
        starts.add("");
        for (String w : words) {
            for (int end = 0; end <= w.length(); end++) {
                starts.add(w.substring(0, end));
            }
        }
        return starts;
    }

    private Set<String> suiteWords(int method, int m) {
        Set<String> b = new LinkedHashSet<>();
        for (String x : access) {
            for (int a = 0; a < k; a++) {
                if (!access.contains(x + a)) {
                    b.add(x + a);
                }
            }
        }
        Set<String> words = new HashSet<>();
        for (String y : wordsUpTo(m)) {
            for (String x : access) {
                addAll(words, x + y, family);
            }
            for (String x : b) {
                if (method == 0) {
                    addAll(words, x + y, family);
                } else if (y.length() == m) {
                    addAll(words, x + y, own.get(goal(small, 0, x + y)).stream().map(family::get).toList());
                }
            }
        }
        return words;
    }

    private static void addAll(Set<String> words, String head, List<String> tails) {
        words.add(head);
        for (String z : tails) {
            words.add(head + z);
        }
    }

    int test(int w, int i, boolean expected) {
        if (tests == null || !in(w, tests.size())) {
            return -1;
        }
        String t = tests.get(w);
        if (i == -1) {
            return t.length();
        }
        return letter(expected ? row(small, 0, t) : t, i);
    }

    void resize(int states) {
        need(states >= 1 && states <= 10);
        allow(sealed);
        built = resized(built, states);
    }

    private Table resized(Table old, int states) {
        Table fresh = new Table(new int[states][k], new int[states][k]);
        for (int s = 0; s < states; s++) {
            for (int a = 0; a < k; a++) {
                boolean had = s < old.next.length;
                fresh.next[s][a] = !had ? s : old.next[s][a] < states ? old.next[s][a] : 0;
                fresh.out[s][a] = had ? old.out[s][a] : 0;
            }
        }
        return fresh;
    }

    void change(int s, int input, int next, int output) {
        allow(sealed);
        need(in(s, built.next.length) && in(next, built.next.length) && in(input, k) && in(output, 4));
        built.next[s][input] = next;
        built.out[s][input] = output;
    }

    int run() {
        allow(tests != null);
        failed = -1;
        for (int w = 0; w < tests.size(); w++) {
            String want = row(small, 0, tests.get(w));
            String got = row(built, 0, tests.get(w));
            for (int i = 0; i < want.length(); i++) {
                if (want.charAt(i) != got.charAt(i)) {
                    failed = i;
                    return w;
                }
            }
        }
        return -1;
    }

    int failed() {
        return failed;
    }

    int begin(int w) {
        need(tests != null && in(w, tests.size()));
        hand = tests.get(w);
        place = 0;
        return told();
    }

    int give(int output) {
        allow(hand != null);
        need(in(output, 4));
        if (row(small, 0, hand).charAt(place) - '0' != output) {
            hand = null;
            return -2;
        }
        place++;
        return told();
    }

    private int told() {
        int input = letter(hand, place);
        if (input == -1) {
            hand = null;
        }
        return input;
    }

    int same() {
        allow(sealed);
        int size = small.next.length;
        Table both = new Table(new int[size + built.next.length][k], new int[size + built.next.length][k]);
        for (int s = 0; s < both.next.length; s++) {
            for (int a = 0; a < k; a++) {
                both.next[s][a] = s < size ? small.next[s][a] : size + built.next[s - size][a];
                both.out[s][a] = s < size ? small.out[s][a] : built.out[s - size][a];
            }
        }
        word = leastWord(both, 0, size);
        return word.length();
    }

    int covered() {
        Set<String> gone = new HashSet<>();
        for (String t : tests == null ? List.<String>of() : tests) {
            for (int i = 0; i < t.length(); i++) {
                gone.add(goal(small, 0, t.substring(0, i)) + "/" + t.charAt(i));
            }
        }
        return gone.size();
    }

    int look(int which) {
        return switch (which) {
            case 0 -> n;
            case 1 -> k;
            case 2 -> sealed ? 1 : 0;
            case 3 -> sealed ? small.next.length : 0;
            case 4 -> tests == null ? 0 : tests.size();
            case 5 -> sealed ? built.next.length : 0;
            case 6 -> beginnings;
            default -> -1;
        };
    }

    private static int letter(String w, int i) {
        return in(i, w.length()) ? w.charAt(i) - '0' : -1;
    }

    private List<String> wordsUpTo(int length) {
        List<String> all = new ArrayList<>(List.of(""));
        for (int at = 0; at < all.size(); at++) {
            for (int a = 0; a < k && all.get(at).length() < length; a++) {
                all.add(all.get(at) + a);
            }
        }
        return all;
    }

    private static int goal(Table m, int from, String w) {
        int s = from;
        for (int i = 0; i < w.length(); i++) {
            s = m.next[s][w.charAt(i) - '0'];
        }
        return s;
    }

    private static String row(Table m, int from, String w) {
        StringBuilder row = new StringBuilder();
        int s = from;
        for (int i = 0; i < w.length(); i++) {
            row.append(m.out[s][w.charAt(i) - '0']);
            s = m.next[s][w.charAt(i) - '0'];
        }
        return row.toString();
    }

    private static boolean tells(Table m, String w, int s, int t) {
        return !row(m, s, w).equals(row(m, t, w));
    }

    /** By how long a word each pair must be told apart at least, found by rounds; then the word, input by input. */
    private static String leastWord(Table m, int s, int t) {
        int size = m.next.length;
        int inputs = m.next[0].length;
        int[][] need = new int[size][size];
        for (int round = 1; round <= size; round++) {
            for (int i = 0; i < size; i++) {
                for (int j = 0; j < size; j++) {
                    for (int a = 0; need[i][j] == 0 && a < inputs; a++) {
                        boolean apart = m.out[i][a] != m.out[j][a];
                        int rest = need[m.next[i][a]][m.next[j][a]];
                        if (round == 1 ? apart : rest == round - 1) {
                            need[i][j] = round;
                        }
                    }
                }
            }
        }
        StringBuilder w = new StringBuilder();
        int one = s;
        int other = t;
        for (int left = need[s][t]; left > 0; left--) {
            int a = 0;
            while (left == 1 ? m.out[one][a] == m.out[other][a] : need[m.next[one][a]][m.next[other][a]] != left - 1) {
                a++;
            }
            w.append(a);
            one = m.next[one][a];
            other = m.next[other][a];
        }
        return w.toString();
    }
}
