import java.util.ArrayDeque;
import java.util.ArrayList;
import java.util.Arrays;
import java.util.Deque;
import java.util.HashMap;
import java.util.HashSet;
import java.util.List;
import java.util.Map;
import java.util.Set;
import java.util.TreeSet;

/**
 * The sentences of "What it is", by their plain sense: the graph is read with step and ends alone, and
 * a distance is found by taking the document's steps one after the other.
 */
public final class WhatItIsTest extends Check {
    /** Nodes read from one object, so that it is not asked more often than the document allows. */
    private static final int NODES_AT_ONCE = 15;

    /** The letters that are tried for the words between, one of which no word of the lists has. */
    private static final String STEP_LETTERS = "abcd";

    /** All words of the first letters, as many as are asked for, in order. */
    private static String[] allWords(int letters, int longest) {
        TreeSet<String> words = new TreeSet<>(Set.of(""));
        for (int length = 0; length < longest; length++) {
            for (String shorter : new ArrayList<>(words)) {
                for (int letter = 0; letter < letters; letter++) {
                    words.add(shorter + (char) ('a' + letter));
                }
            }
        }
        return words.toArray(new String[0]);
    }

    /** The dictionaries whose graphs are read: every choice among 15 words, and some at the limits. */
    private static List<String[]> dictionaries() {
        List<String[]> all = new ArrayList<>();
        String[] among = allWords(2, 3);
        for (int choice = 0; choice < 1 << among.length; choice++) {
            List<String> chosen = new ArrayList<>();
            for (int k = 0; k < among.length; k++) {
                if ((choice >> k & 1) != 0) {
                    chosen.add(among[k]);
                }
            }
            all.add(chosen.toArray(new String[0]));
        }
        all.addAll(List.of(fullList(), longWords(), allWords(1, 12), allWords(2, 4), allWords(3, 3)));
        return all;
    }

    /** What step and ends tell of each node. */
    private static final class Graph {
        final int nodes;
        final int[][] next;
        final boolean[] end;

        Graph(String[] words) {
            WordGraph x = sealed(words);
            nodes = x.nodes();
            next = new int[nodes][27];
            end = new boolean[nodes];
            for (int node = 0; node < nodes; node++) {
                x = node % NODES_AT_ONCE == 0 ? sealed(words) : x;
                end[node] = x.ends(node);
                for (int letter = 1; letter <= 26; letter++) {
                    next[node][letter] = x.step(node, letter);
                }
            }
        }

        /** The rows of letters that lead from a node to an end; longer ones than words can be, too. */
        List<String> rowsFrom(int node, String before) {
            List<String> rows = new ArrayList<>();
            if (end[node]) {
                rows.add(before);
            }
            for (int letter = 1; letter <= 26 && before.length() < 14; letter++) {
                if (next[node][letter] >= 0) {
                    rows.addAll(rowsFrom(next[node][letter], before + (char) ('a' + letter - 1)));
                }
            }
            return rows;
        }

        Set<Integer> reached() {
            Set<Integer> reached = new HashSet<>(Set.of(0));
            Deque<Integer> open = new ArrayDeque<>(reached);
            while (!open.isEmpty()) {
                for (int to : Arrays.copyOfRange(next[open.remove()], 1, 27)) {
                    if (to >= 0 && reached.add(to)) {
                        open.add(to);
                    }
                }
            }
            return reached;
        }
    }

    private static void graphReadsTheWords() {
        for (String[] words : dictionaries()) {
            due("the words read", new Graph(words).rowsFrom(0, ""), List.of(words));
        }
    }

    /** It is the smallest if every node is reached and no two nodes lead on in the same ways. */
    private static void graphIsTheSmallest() {
        for (String[] words : dictionaries()) {
            Graph graph = new Graph(words);
            due("nodes reached for " + List.of(words), graph.reached().size(), graph.nodes);
            Set<List<String>> rows = new HashSet<>();
            for (int node = 0; node < graph.nodes; node++) {
                rows.add(graph.rowsFrom(node, ""));
            }
            due("nodes that differ for " + List.of(words), rows.size(), graph.nodes);
        }
    }

    /** All that one step makes of a word. */
    private static Set<String> oneStepFrom(String word) {
        Set<String> made = new HashSet<>();
        for (int place = 0; place <= word.length(); place++) {
            String before = word.substring(0, place);
            String behind = word.substring(place);
            for (char letter : STEP_LETTERS.toCharArray()) {
                made.add(before + letter + behind);
                if (place < word.length()) {
                    made.add(before + letter + behind.substring(1));
                }
            }
            if (place < word.length()) {
                made.add(before + behind.substring(1));
            }
        }
        return made;
    }

    /** The least number of steps from a word to each other one; no word between is longer than that. */
    private static Map<String, Integer> stepsFrom(String word, int longest) {
        Map<String, Integer> steps = new HashMap<>(Map.of(word, 0));
        Deque<String> open = new ArrayDeque<>(steps.keySet());
        while (!open.isEmpty()) {
            String from = open.remove();
            for (String to : oneStepFrom(from)) {
                if (to.length() <= longest && !steps.containsKey(to)) {
                    steps.put(to, steps.get(from) + 1);
                    open.add(to);
                }
            }
        }
        return steps;
    }

    /** Lists of words short enough that all words between can be tried, also longer ones. */
    private static String[][] shortLists() {
        return new String[][] {allWords(2, 4), allWords(3, 3)};
    }

    private static void distanceIsTheLeastNumberOfSteps() {
        for (String[] words : shortLists()) {
            for (String asked : words) {
                Map<String, Integer> steps = stepsFrom(asked, 6);
                WordGraph x = open(words);
                for (int k = 0; k < words.length; k++) {
                    int want = steps.get(words[k]);
                    due(asked + " to " + words[k], x.distance(word(asked), k), want);
                }
            }
        }
    }

    private static void searchFindsTheNearestFirst() {
        for (String[] words : shortLists()) {
            for (String asked : words) {
                Map<String, Integer> steps = stepsFrom(asked, 6);
                for (int d = 0; d <= 3; d++) {
                    dueNearest(asked, d, words, steps);
                }
            }
        }
    }

    private static void dueNearest(String asked, int d, String[] words, Map<String, Integer> steps) {
        List<Integer> numbersAndFars = new ArrayList<>();
        for (int far = 0; far <= d; far++) {
            for (int k = 0; k < words.length; k++) {
                if (steps.get(words[k]) == far) {
                    numbersAndFars.addAll(List.of(k, far));
                }
            }
        }
        WordGraph x = sealed(words);
        due("search " + asked + ", " + d, x.search(word(asked), d), numbersAndFars.size() / 2);
        dueResults(x, numbersAndFars.stream().mapToInt(Integer::intValue).toArray());
    }

    /** Long words too are found in spite of three errors at any place, but not of four. */
    private static void foundInSpiteOfThreeErrors() {
        String[] words = longWords();
        for (int k = 0; k < 48; k += 7) {
            for (int place = 0; place <= 8; place++) {
                String before = words[k].substring(0, place);
                dueFound(k, before + "zzz" + words[k].substring(place + 3), true);
                dueFound(k, before + words[k].substring(place + 3), true);
                dueFound(k, before + "zzzz" + words[k].substring(place + 4), false);
                dueFound(k, before + words[k].substring(place + 4), false);
            }
        }
    }

    private static void dueFound(int k, String asked, boolean want) {
        WordGraph x = sealed(longWords());
        x.search(word(asked), 2);
        due("word " + k + " for " + asked + ", 2", hasResult(x, k, 3), false);
        x.search(word(asked), 3);
        due("word " + k + " for " + asked + ", 3", hasResult(x, k, 3), want);
    }

    private static boolean hasResult(WordGraph x, int number, int far) {
        boolean found = false;
        for (int i = 0; i < 48; i++) {
            found |= x.result(i) == number && x.far(i) == far;
        }
        return found;
    }

    /** The last of 512 calls answers rightly, too. */
    private static void holdsFor512Calls() {
        WordGraph x = new WordGraph();
        int calls = 0;
        for (String letters : fullList()) {
            due("add", x.add(word(letters)), 0);
            calls++;
        }
        due("seal", x.seal(), true);
        for (calls++; calls < 510; calls++) {
            due("search", x.search(word("za"), 2), 48);
        }
        due("call 511", x.result(47), 24);
        due("call 512", x.far(47), 2);
    }

    public static void main(String[] args) {
        sentence("a graph that reads the words", WhatItIsTest::graphReadsTheWords);
        sentence("the smallest graph", WhatItIsTest::graphIsTheSmallest);
        sentence("its true distance", WhatItIsTest::distanceIsTheLeastNumberOfSteps);
        sentence("the nearest first", WhatItIsTest::searchFindsTheNearestFirst);
        sentence("found in spite of up to three errors", WhatItIsTest::foundInSpiteOfThreeErrors);
        sentence("an object is used for 512 calls", WhatItIsTest::holdsFor512Calls);
        finish();
    }
}
