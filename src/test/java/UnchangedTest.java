import java.util.ArrayList;
import java.util.LinkedHashMap;
import java.util.List;
import java.util.Map;
import java.util.function.Function;
import java.util.function.Supplier;

/**
 * "A call that is refused changes nothing", and "questions change nothing": each such call is made in
 * each state that the document knows, and then all that can be asked or done is answered as without it.
 */
public final class UnchangedTest extends Check {
    private static final String TWELVE = "abcdefghijkl";
    private static final String LAST = "zzzzzzzzzzzz";
    private static final String[] SOME = {"", "car", "cat", "cats", "dot", "dots", "zzzzzzzzzzzy"};
    private static final long[] ASKED = {
        0L, word("a"), word("cat"), word("za"), word(TWELVE), word(LAST), 1L, -1L
    };
    private static final int[] NUMBERS = {Integer.MIN_VALUE, -1, 0, 1, 4, 47, 48, 577, Integer.MAX_VALUE};
    private static final int[] LETTERS = {Integer.MIN_VALUE, -1, 0, 1, 3, 26, 27, Integer.MAX_VALUE};

    /** Nodes looked at in one go, so that an object is not asked more often than the document allows. */
    private static final int NODES_AT_ONCE = 15;

    /** A call as its answer; the state it is made in is the object's. */
    private interface Call extends Function<WordGraph, Object> {
    }

    private static Map<String, Supplier<WordGraph>> states() {
        Map<String, Supplier<WordGraph>> all = new LinkedHashMap<>();
        all.put("a new object", WordGraph::new);
        all.put("open with the empty word", () -> open(""));
        all.put("open with some words", () -> open(SOME));
        all.put("open and full", () -> open(fullList()));
        all.put("sealed without words", () -> sealed());
        all.put("sealed without words, searched", () -> searched(0L, 3));
        all.put("sealed with the empty word", () -> sealed(""));
        all.put("sealed with some words", () -> sealed(SOME));
        all.put("sealed with some words, searched", () -> searched(word("cat"), 3, SOME));
        all.put("sealed with some words, nothing found", () -> searched(word(TWELVE), 0, SOME));
        all.put("sealed and full", () -> sealed(fullList()));
        all.put("sealed and full, searched", () -> searched(word("za"), 2, fullList()));
        all.put("sealed with long words, searched", () -> searched(word(longWords()[9]), 3, longWords()));
        all.put("cleared", UnchangedTest::cleared);
        return all;
    }

    private static WordGraph searched(long w, int d, String... words) {
        WordGraph x = sealed(words);
        x.search(w, d);
        return x;
    }

    private static WordGraph cleared() {
        WordGraph x = searched(word("cat"), 3, SOME);
        x.clear();
        return x;
    }

    private static Map<String, Call> questions() {
        Map<String, Call> all = new LinkedHashMap<>();
        all.put("size", WordGraph::size);
        all.put("nodes", WordGraph::nodes);
        for (int k : NUMBERS) {
            all.put("word " + k, x -> x.word(k));
            all.put("ends " + k, x -> x.ends(k));
            all.put("endings " + k, x -> x.endings(k));
            all.put("result " + k, x -> x.result(k));
            all.put("far " + k, x -> x.far(k));
            for (int letter : LETTERS) {
                all.put("step " + k + ", " + letter, x -> x.step(k, letter));
            }
            for (long w : ASKED) {
                all.put("distance " + w + ", " + k, x -> x.distance(w, k));
            }
        }
        for (long w : ASKED) {
            all.put("find " + w, x -> x.find(w));
        }
        return all;
    }

    /** Calls that may be refused, as the state is; they are left out where they are not. */
    private static Map<String, Call> orders() {
        Map<String, Call> all = new LinkedHashMap<>();
        all.put("seal", WordGraph::seal);
        for (long w : ASKED) {
            all.put("add " + w, x -> x.add(w));
            for (int d : new int[] {Integer.MIN_VALUE, -1, 0, 1, 2, 3, 4, Integer.MAX_VALUE}) {
                all.put("search " + w + ", " + d, x -> x.search(w, d));
            }
        }
        return all;
    }

    private static boolean isRefusal(Object answer) {
        return answer instanceof Boolean ? answer.equals(false) : (Integer) answer < 0;
    }

    /** Everything that can be seen of an object, in parts of which each is asked of an object of its own. */
    private static List<Call> views(WordGraph like) {
        List<Call> all = new ArrayList<>();
        all.add(UnchangedTest::wordsOf);
        all.add(UnchangedTest::distancesOf);
        all.add(UnchangedTest::resultsOf);
        all.add(UnchangedTest::goOn);
        int nodes = like.nodes();
        for (int from = 0; from <= nodes; from += NODES_AT_ONCE) {
            int start = from;
            int end = Math.min(from + NODES_AT_ONCE, nodes + 1);
            all.add(x -> nodesOf(x, start, end));
        }
        return all;
    }

    private static String wordsOf(WordGraph x) {
        StringBuilder seen = new StringBuilder("words " + x.size());
        for (int k = -1; k <= 48; k++) {
            seen.append(' ').append(x.word(k));
        }
        for (String[] words : new String[][] {SOME, fullList(), longWords()}) {
            for (String letters : words) {
                seen.append(' ').append(x.find(word(letters)));
            }
        }
        return seen.toString();
    }

    private static String distancesOf(WordGraph x) {
        StringBuilder seen = new StringBuilder("distances");
        for (long w : ASKED) {
            for (int k = -1; k <= 48; k++) {
                seen.append(' ').append(x.distance(w, k));
            }
        }
        return seen.toString();
    }

    private static String resultsOf(WordGraph x) {
        StringBuilder seen = new StringBuilder("results");
        for (int i = -1; i <= 48; i++) {
            seen.append(' ').append(x.result(i)).append(':').append(x.far(i));
        }
        return seen.toString();
    }

    private static String nodesOf(WordGraph x, int from, int end) {
        StringBuilder seen = new StringBuilder("nodes " + x.nodes());
        for (int node = from; node < end; node++) {
            seen.append(" | ").append(x.ends(node)).append(' ').append(x.endings(node));
            for (int letter = 1; letter <= 26; letter++) {
                seen.append(' ').append(x.step(node, letter));
            }
        }
        return seen.toString();
    }

    /** What is done next does the same, too: whether it is open, what the last word is, how many there are. */
    private static String goOn(WordGraph x) {
        StringBuilder seen = new StringBuilder("going on");
        String[] next = {"", "b", "dots", "zv", "zw", "zzzzzzzzzzzy", LAST};
        for (String letters : next) {
            seen.append(' ').append(x.add(word(letters)));
        }
        seen.append(' ').append(x.size()).append(' ').append(x.search(word("zv"), 3));
        seen.append(' ').append(x.seal()).append(' ').append(x.nodes());
        seen.append(' ').append(x.search(word("zv"), 3)).append(' ').append(resultsOf(x));
        return seen.append(' ').append(nodesOf(x, 0, 5)).toString();
    }

    private static void dueUnchanged(String state, Supplier<WordGraph> made, String name, Call call) {
        for (Call view : views(made.get())) {
            WordGraph x = made.get();
            Object answer = call.apply(x);
            due("in the state '" + state + "', " + name + " a second time", call.apply(x), answer);
            due("in the state '" + state + "', behind " + name, view.apply(x), view.apply(made.get()));
        }
    }

    private static void refusedCallsChangeNothing() {
        states().forEach((state, made) -> orders().forEach((name, call) -> {
            if (isRefusal(call.apply(made.get()))) {
                dueUnchanged(state, made, name, call);
            }
        }));
    }

    private static void questionsChangeNothing() {
        states().forEach((state, made) -> questions().forEach(
            (name, call) -> dueUnchanged(state, made, name, call)));
    }

    /** Without this, a call that is wrongly taken would be left out of the comparison. */
    private static void refusedWhereItIsDue() {
        states().forEach((state, made) -> {
            int refused = 0;
            for (Call call : orders().values()) {
                refused += isRefusal(call.apply(made.get())) ? 1 : 0;
            }
            due("refused calls in the state '" + state + "'", refused, refusedIn(state));
        });
    }

    /**
     * Of 73 calls: one seal, 8 adds, two of them of no word, and 64 searches, of which 6 words with 4
     * distances are taken when it is sealed.
     */
    private static int refusedIn(String state) {
        int adds = 2;
        if (state.equals("open with the empty word")) {
            adds += 1;
        } else if (state.equals("open with some words")) {
            adds += 5;
        } else if (state.equals("open and full")) {
            adds += 6;
        }
        return state.startsWith("sealed") ? 1 + 8 + 64 - 24 : adds + 64;
    }

    public static void main(String[] args) {
        sentence("a call is refused where it is due", UnchangedTest::refusedWhereItIsDue);
        sentence("a call that is refused changes nothing", UnchangedTest::refusedCallsChangeNothing);
        sentence("questions change nothing", UnchangedTest::questionsChangeNothing);
        finish();
    }
}
