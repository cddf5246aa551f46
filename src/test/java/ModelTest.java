import java.util.ArrayList;
import java.util.Arrays;
import java.util.Collections;
import java.util.LinkedHashMap;
import java.util.List;
import java.util.Map;
import java.util.Random;
import java.util.TreeSet;

/**
 * Long runs of calls, always the same ones, whose answers are compared with those of a model that
 * follows the document's terms word for word: texts, sets of endings, distance by its definition.
 */
public final class ModelTest {
    private static final int RUNS = 2000;
    private static final int MOST_CALLS = 512;

    private static int asked = 0;
    private static int wrong = 0;

    /** The document's dictionary over texts of the letters a .. z. */
    private static final class Model {
        final List<String> words = new ArrayList<>();
        boolean sealed = false;
        List<int[]> results = new ArrayList<>();
        final List<TreeSet<String>> endings = new ArrayList<>();
        final Map<String, Integer> nodeOf = new LinkedHashMap<>();
        final List<String> beginningOf = new ArrayList<>();

        int add(long w) {
            String text = text(w);
            if (sealed) {
                return -1;
            }
            if (text == null) {
                return -2;
            }
            if (words.size() == 48) {
                return -3;
            }
            if (!words.isEmpty() && text.compareTo(words.get(words.size() - 1)) <= 0) {
                return -4;
            }
            words.add(text);
            return 0;
        }

        boolean seal() {
            if (sealed) {
                return false;
            }
            sealed = true;
            if (words.isEmpty()) {
                meet("");
            }
            for (String text : words) {
                for (int k = 0; k <= text.length(); k++) {
                    meet(text.substring(0, k));
                }
            }
            return true;
        }

        private void meet(String beginning) {
            TreeSet<String> own = new TreeSet<>();
            for (String text : words) {
                if (text.startsWith(beginning)) {
                    own.add(text.substring(beginning.length()));
                }
            }
            if (!endings.contains(own)) {
                endings.add(own);
                beginningOf.add(beginning);
            }
            nodeOf.put(beginning, endings.indexOf(own));
        }

        void clear() {
            words.clear();
            sealed = false;
            results = new ArrayList<>();
            endings.clear();
            nodeOf.clear();
            beginningOf.clear();
        }

        long word(int k) {
            return k >= 0 && k < words.size() ? pack(words.get(k)) : -1L;
        }

        int find(long w) {
            return words.indexOf(text(w));
        }

        private boolean hasNode(int node) {
            return node >= 0 && node < endings.size();
        }

        int step(int node, int letter) {
            if (!hasNode(node) || letter < 1 || letter > 26) {
                return -1;
            }
            return nodeOf.getOrDefault(beginningOf.get(node) + (char) ('a' + letter - 1), -1);
        }

        boolean ends(int node) {
            return hasNode(node) && endings.get(node).contains("");
        }

        int endings(int node) {
            return hasNode(node) ? endings.get(node).size() : 0;
        }

        int distance(long w, int k) {
            String text = text(w);
            return text == null || k < 0 || k >= words.size() ? -1 : between(text, words.get(k));
        }

        int search(long w, int d) {
            String text = text(w);
            if (!sealed) {
                return -1;
            }
            if (text == null || d < 0 || d > 3) {
                return -2;
            }
            results = new ArrayList<>();
            for (int k = 0; k < words.size(); k++) {
                int far = between(text, words.get(k));
                if (far <= d) {
                    results.add(new int[] {k, far});
                }
            }
            results.sort((p, q) -> p[1] != q[1] ? p[1] - q[1] : p[0] - q[0]);
            return results.size();
        }

        int result(int i) {
            return i >= 0 && i < results.size() ? results.get(i)[0] : -1;
        }

        int far(int i) {
            return i >= 0 && i < results.size() ? results.get(i)[1] : -1;
        }
    }

    /** The least number of steps, from what is best done at the first letters of both. */
    private static int between(String v, String w) {
        int[][] known = new int[v.length() + 1][w.length() + 1];
        for (int[] row : known) {
            Arrays.fill(row, -1);
        }
        return between(v, w, 0, 0, known);
    }

    private static int between(String v, String w, int i, int j, int[][] known) {
        if (i == v.length()) {
            return w.length() - j;
        }
        if (j == w.length()) {
            return v.length() - i;
        }
        if (known[i][j] < 0) {
            int put = between(v, w, i, j + 1, known) + 1;
            int taken = between(v, w, i + 1, j, known) + 1;
            int other = between(v, w, i + 1, j + 1, known) + (v.charAt(i) == w.charAt(j) ? 0 : 1);
            known[i][j] = Math.min(other, Math.min(put, taken));
        }
        return known[i][j];
    }

    private static long pack(String text) {
        long w = 0L;
        for (int i = 0; i < 12; i++) {
            w = w * 32L + (i < text.length() ? text.charAt(i) - 'a' + 1 : 0);
        }
        return w;
    }

    /** The text whose packing is w, or null if there is none. */
    private static String text(long w) {
        StringBuilder text = new StringBuilder();
        for (int i = 0; i < 12; i++) {
            int letter = (int) (w >> (55 - 5 * i) & 31);
            if (letter >= 1 && letter <= 26) {
                text.append((char) ('a' + letter - 1));
            }
        }
        return pack(text.toString()) == w ? text.toString() : null;
    }

    /** A run: one object, its model, and how its words look. */
    private static final class Run {
        final int number;
        final Random random;
        final WordGraph x = new WordGraph();
        final Model model = new Model();
        final int letters;
        final int longest;
        int calls = 0;

        Run(int number) {
            this.number = number;
            random = new Random(number);
            letters = new int[] {1, 2, 3, 5, 26}[random.nextInt(5)];
            longest = new int[] {2, 4, 7, 12, 12}[random.nextInt(5)];
        }

        void due(String call, long got, long want) {
            asked++;
            calls++;
            if (got != want) {
                wrong++;
                if (wrong <= 40) {
                    System.out.println("run " + number + ", call " + calls + ": " + call
                        + " answered " + got + ", due is " + want);
                }
            }
        }

        String newText() {
            int length = random.nextInt(longest + 1);
            StringBuilder text = new StringBuilder();
            for (int i = 0; i < length; i++) {
                text.append((char) ('a' + random.nextInt(letters)));
            }
            return text.toString();
        }

        /** A word of the dictionary with a few errors, a new word, or now and then no word. */
        long asked() {
            int kind = random.nextInt(20);
            if (kind == 0) {
                return random.nextLong();
            }
            if (kind == 1) {
                return pack(newText()) | 1L << random.nextInt(64);
            }
            if (kind < 8 || model.words.isEmpty()) {
                return pack(newText());
            }
            StringBuilder text =
                new StringBuilder(model.words.get(random.nextInt(model.words.size())));
            for (int errors = random.nextInt(5); errors > 0; errors--) {
                spoil(text);
            }
            text.setLength(Math.min(text.length(), 12));
            return pack(text.toString());
        }

        private void spoil(StringBuilder text) {
            char letter = (char) ('a' + random.nextInt(letters));
            int kind = random.nextInt(3);
            if (kind == 0 || text.length() == 0) {
                text.insert(random.nextInt(text.length() + 1), letter);
            } else if (kind == 1) {
                text.deleteCharAt(random.nextInt(text.length()));
            } else {
                text.setCharAt(random.nextInt(text.length()), letter);
            }
        }

        int number(int bound) {
            int kind = random.nextInt(30);
            return kind == 0 ? random.nextInt() : random.nextInt(bound + 3) - 1;
        }

        void add(long w) {
            due("add " + w, x.add(w), model.add(w));
        }

        void seal() {
            due("seal", x.seal() ? 1 : 0, model.seal() ? 1 : 0);
        }

        void clear() {
            calls++;
            x.clear();
            model.clear();
        }

        void fill() {
            TreeSet<String> texts = new TreeSet<>();
            int wanted = random.nextInt(4) == 0 ? 48 : random.nextInt(49);
            for (int t = 0; t < 2000 && texts.size() < wanted; t++) {
                texts.add(newText());
            }
            for (String text : texts) {
                if (random.nextInt(10) == 0) {
                    ask();
                }
                add(pack(text));
            }
        }

        void ask() {
            long w = asked();
            int node = number(model.endings.size());
            int k = number(model.words.size());
            int i = number(model.results.size());
            switch (random.nextInt(12)) {
                case 0 -> due("size", x.size(), model.words.size());
                case 1 -> due("word " + k, x.word(k), model.word(k));
                case 2 -> due("find " + w, x.find(w), model.find(w));
                case 3 -> due("nodes", x.nodes(), model.endings.size());
                case 4 -> {
                    int letter = number(letters);
                    due("step " + node + ", " + letter, x.step(node, letter), model.step(node, letter));
                }
                case 5 -> due("ends " + node, x.ends(node) ? 1 : 0, model.ends(node) ? 1 : 0);
                case 6 -> due("endings " + node, x.endings(node), model.endings(node));
                case 7 -> due("distance " + w + ", " + k, x.distance(w, k), model.distance(w, k));
                case 8, 9 -> {
                    int d = number(3);
                    due("search " + w + ", " + d, x.search(w, d), model.search(w, d));
                }
                case 10 -> due("result " + i, x.result(i), model.result(i));
                default -> due("far " + i, x.far(i), model.far(i));
            }
        }

        /** Every letter of one node after another, and all results, as far as the calls reach. */
        void askInOrder() {
            for (int i = -1; i <= model.results.size() && calls < MOST_CALLS - 2; i++) {
                due("result " + i, x.result(i), model.result(i));
                due("far " + i, x.far(i), model.far(i));
            }
            int from = random.nextInt(model.endings.size() + 1) - 1;
            for (int node = from; node <= model.endings.size() && calls < MOST_CALLS - 30; node++) {
                due("ends " + node, x.ends(node) ? 1 : 0, model.ends(node) ? 1 : 0);
                due("endings " + node, x.endings(node), model.endings(node));
                for (int letter = 0; letter <= 27; letter++) {
                    due("step " + node + ", " + letter, x.step(node, letter), model.step(node, letter));
                }
            }
        }

        void go() {
            while (calls < MOST_CALLS - 110) {
                fill();
                int questions = random.nextInt(120);
                if (random.nextInt(8) != 0) {
                    seal();
                }
                for (int t = 0; t < questions && calls < MOST_CALLS - 2; t++) {
                    int kind = random.nextInt(40);
                    if (kind == 0) {
                        seal();
                    } else if (kind == 1) {
                        add(asked());
                    } else {
                        ask();
                    }
                }
                if (calls >= MOST_CALLS - 110 || random.nextInt(3) == 0) {
                    break;
                }
                clear();
            }
            askInOrder();
        }
    }

    public static void main(String[] args) {
        checkTheModel();
        for (int number = 0; number < RUNS; number++) {
            new Run(number).go();
        }
        System.out.println(asked + " answers, " + wrong + " of them wrong");
        if (wrong != 0) {
            System.exit(1);
        }
    }

    /** The model's own texts and distances, on cases that are plain to see. */
    private static void checkTheModel() {
        List<String> texts = new ArrayList<>(List.of("", "a", "ab", "b", "zzzzzzzzzzzz"));
        List<Long> packed = new ArrayList<>();
        for (String text : texts) {
            packed.add(pack(text));
            if (!text.equals(text(pack(text)))) {
                wrong++;
                System.out.println("the model reads " + text + " wrongly");
            }
        }
        List<Long> inOrder = new ArrayList<>(packed);
        Collections.sort(inOrder);
        if (!inOrder.equals(packed) || text(1L) != null || text(27L << 55) != null || text(-1L) != null
            || between("kitten", "sitting") != 3 || between("", "abc") != 3 || between("ab", "ba") != 2) {
            wrong++;
            System.out.println("the model is wrong");
        }
    }
}
