import java.util.ArrayList;
import java.util.List;

/** The promises of the document one by one: ordinary inputs, the edges it names, wrong inputs. */
public final class PromiseTest {
    private static final long[] NO_WORDS = {
        -1L, Long.MIN_VALUE, Long.MAX_VALUE, 1L << 60, (1L << 60) | word("cat"), 1L, 31L,
        27L << 55, 31L << 55, word("a") | 27L << 50, word("zzzzzzzzzzz") | 27L, 1L << 50,
        word("ab") | 1L << 40, word("ab") | 1L, word("cat") | Long.MIN_VALUE
    };
    private static final int[] WRONG_NUMBERS = {Integer.MIN_VALUE, -2, -1, 1000, Integer.MAX_VALUE};

    private static int asked = 0;
    private static int wrong = 0;
    private static String promise = "";

    private static void due(String call, long got, long want) {
        asked++;
        if (got != want) {
            wrong++;
            System.out.println(promise + ": " + call + " answered " + got + ", due is " + want);
        }
    }

    private static void due(String call, boolean got, boolean want) {
        due(call, got ? 1L : 0L, want ? 1L : 0L);
    }

    private static long word(String letters) {
        long w = 0L;
        for (int i = 0; i < letters.length(); i++) {
            w |= (long) (letters.charAt(i) - 'a' + 1) << (55 - 5 * i);
        }
        return w;
    }

    private static WordGraph open(String... words) {
        WordGraph x = new WordGraph();
        for (String letters : words) {
            due("add " + letters, x.add(word(letters)), 0);
        }
        return x;
    }

    private static WordGraph sealed(String... words) {
        WordGraph x = open(words);
        due("seal", x.seal(), true);
        return x;
    }

    /** 48 words of one or two letters: a, b .. z, then za .. zv. */
    private static String[] fullList() {
        List<String> words = new ArrayList<>();
        for (char c = 'a'; c <= 'z'; c++) {
            words.add(String.valueOf(c));
        }
        for (char c = 'a'; c <= 'v'; c++) {
            words.add("z" + c);
        }
        return words.toArray(new String[0]);
    }

    private static void dueResults(WordGraph x, int... numbersAndFars) {
        int count = numbersAndFars.length / 2;
        for (int i = 0; i < count; i++) {
            due("result " + i, x.result(i), numbersAndFars[2 * i]);
            due("far " + i, x.far(i), numbersAndFars[2 * i + 1]);
        }
        due("result behind the last", x.result(count), -1);
        due("far behind the last", x.far(count), -1);
        for (int i : WRONG_NUMBERS) {
            due("result " + i, x.result(i), -1);
            due("far " + i, x.far(i), -1);
        }
    }

    private static void dueEmptyAndOpen(WordGraph x) {
        due("size", x.size(), 0);
        due("nodes", x.nodes(), 0);
        due("word 0", x.word(0), -1);
        due("find of the empty word", x.find(0L), -1);
        due("find cat", x.find(word("cat")), -1);
        due("step", x.step(0, 3), -1);
        due("ends", x.ends(0), false);
        due("endings", x.endings(0), 0);
        due("distance", x.distance(word("cat"), 0), -1);
        due("search", x.search(word("cat"), 3), -1);
        dueResults(x);
    }

    private static void newObject() {
        promise = "promise 1";
        dueEmptyAndOpen(new WordGraph());
        WordGraph one = sealed("cat");
        dueEmptyAndOpen(new WordGraph());
        due("an object beside a new one", one.size(), 1);
        due("a new object is open", new WordGraph().add(0L), 0);
        due("a new object can be sealed", new WordGraph().seal(), true);
    }

    private static void add() {
        promise = "promise 2";
        WordGraph x = new WordGraph();
        for (long w : NO_WORDS) {
            due("add " + w, x.add(w), -2);
        }
        due("nothing added", x.size(), 0);
        due("the empty word", x.add(0L), 0);
        due("the empty word again", x.add(0L), -4);
        due("the least word of one letter", x.add(word("a")), 0);
        due("a longer one", x.add(word("aaaaaaaaaaaa")), 0);
        due("the same one", x.add(word("aaaaaaaaaaaa")), -4);
        due("a shorter, lesser one", x.add(word("aaaaaaaaaaa")), -4);
        due("no word, and not greater", x.add(1L), -2);
        due("the greatest word", x.add(word("zzzzzzzzzzzz")), 0);
        due("nothing refused was added", x.size(), 4);
        due("the last one stays", x.word(3), word("zzzzzzzzzzzz"));
        addWhenFull();
        addWhenSealed();
    }

    private static void addWhenFull() {
        WordGraph x = open(fullList());
        due("size", x.size(), 48);
        due("a word too many", x.add(word("zw")), -3);
        due("too many, and not greater", x.add(word("a")), -3);
        due("no word when full", x.add(-1L), -2);
        due("size", x.size(), 48);
        due("the last word", x.word(47), word("zv"));
        due("no word behind it", x.word(48), -1);
        due("seal", x.seal(), true);
        due("sealed and full", x.add(word("zw")), -1);
    }

    private static void addWhenSealed() {
        WordGraph x = sealed("cat");
        due("a good word when sealed", x.add(word("dog")), -1);
        due("no word when sealed", x.add(-1L), -1);
        due("not greater when sealed", x.add(word("cat")), -1);
        due("size", x.size(), 1);
        due("nodes", x.nodes(), 4);
    }

    private static void seal() {
        promise = "promise 3";
        WordGraph x = open("car", "cat");
        due("seal", x.seal(), true);
        due("nodes", x.nodes(), 4);
        due("seal again", x.seal(), false);
        due("nodes stay", x.nodes(), 4);
        due("words stay", x.size(), 2);
        due("search", x.search(word("car"), 1), 2);
        due("seal again", x.seal(), false);
        dueResults(x, 0, 0, 1, 1);
        WordGraph empty = sealed();
        due("one node without words", empty.nodes(), 1);
        due("seal again without words", empty.seal(), false);
        due("add behind seal", empty.add(word("cat")), -1);
        due("one node still", empty.nodes(), 1);
    }

    private static void clear() {
        promise = "promise 4";
        WordGraph x = sealed("car", "cat", "cats");
        due("search", x.search(word("cat"), 3), 3);
        x.clear();
        dueEmptyAndOpen(x);
        due("seal without words", x.seal(), true);
        due("nodes", x.nodes(), 1);
        due("ends without words", x.ends(0), false);
        due("endings without words", x.endings(0), 0);
        due("step without words", x.step(0, 3), -1);
        due("search without words", x.search(word("cat"), 3), 0);
        x.clear();
        due("a lesser word", x.add(word("b")), 0);
        x.clear();
        due("a lesser word yet", x.add(word("a")), 0);
        due("size", x.size(), 1);
        due("seal", x.seal(), true);
        due("nodes", x.nodes(), 2);
        due("step", x.step(0, 1), 1);
        due("an old letter", x.step(0, 3), -1);
        dueResults(x);
        WordGraph full = open(fullList());
        full.clear();
        due("add when it was full", full.add(word("a")), 0);
    }

    private static void size() {
        promise = "promise 5";
        WordGraph x = new WordGraph();
        String[] words = fullList();
        for (int k = 0; k < words.length; k++) {
            due("size", x.size(), k);
            x.add(word(words[k]));
        }
        due("size", x.size(), 48);
        x.seal();
        due("size when sealed", x.size(), 48);
    }

    private static void word() {
        promise = "promise 6";
        WordGraph x = open("", "ab", "abc", "zzzzzzzzzzzz");
        for (int round = 0; round < 2; round++) {
            due("word 0", x.word(0), 0L);
            due("word 1", x.word(1), word("ab"));
            due("word 2", x.word(2), word("abc"));
            due("word 3", x.word(3), 966966423218645850L);
            due("word 4", x.word(4), -1L);
            for (int k : WRONG_NUMBERS) {
                due("word " + k, x.word(k), -1L);
            }
            x.seal();
        }
    }

    private static void find() {
        promise = "promise 7";
        WordGraph x = open("ab", "abc", "b", "zzzzzzzzzzzz");
        for (int round = 0; round < 2; round++) {
            due("find ab", x.find(word("ab")), 0);
            due("find abc", x.find(word("abc")), 1);
            due("find b", x.find(word("b")), 2);
            due("find z..", x.find(word("zzzzzzzzzzzz")), 3);
            due("find of a beginning", x.find(word("a")), -1);
            due("find of a longer one", x.find(word("abcd")), -1);
            due("find of the empty word", x.find(0L), -1);
            for (long w : NO_WORDS) {
                due("find " + w, x.find(w), -1);
            }
            x.seal();
        }
        x.clear();
        due("find of an old word", x.find(word("ab")), -1);
    }

    private static void nodes() {
        promise = "promise 8";
        WordGraph x = open("tap", "taps", "top", "tops");
        due("nodes while open", x.nodes(), 0);
        x.seal();
        due("nodes when sealed", x.nodes(), 5);
        due("one word of twelve letters", sealed("abcdefghijkl").nodes(), 13);
        due("the empty word alone", sealed("").nodes(), 1);
        due("one row of one letter", sealed("", "a", "aa", "aaa").nodes(), 4);
        due("all words of two letters", sealed("aa", "ab", "ba", "bb").nodes(), 3);
        due("one of them missing", sealed("aa", "ab", "ba").nodes(), 4);
        due("equal first endings alone", sealed("ac", "bc", "bd").nodes(), 4);
        due("equal last endings alone", sealed("ac", "ad", "bd").nodes(), 4);
        due("a node within its own word", sealed("ab", "b").nodes(), 3);
        due("48 words", sealed(fullList()).nodes(), 3);
        due("hardly anything shared", sealed(longWords()).nodes(), 1 + 24 + 48 * 9 + 26 + 1);
    }

    /**
     * 48 words of twelve letters: 24 first letters, no beginning of 2 to 10 letters shared and none
     * with the endings of another, 26 last letters, so that the graph is nearly as large as can be.
     */
    private static String[] longWords() {
        String[] words = new String[48];
        for (int k = 0; k < 48; k++) {
            char first = (char) ('a' + k / 2);
            char second = (char) (k % 2 == 0 ? 'a' : 'b');
            char last = (char) ('a' + k % 26);
            char before = (char) ('a' + k / 26);
            words[k] = "" + first + second + "mmmmmmmm" + before + last;
        }
        return words;
    }

    private static void step() {
        promise = "promise 9";
        WordGraph x = open("car", "cat", "dot", "dots");
        due("step while open", x.step(0, 3), -1);
        x.seal();
        // c 1, ca 2, car and cat 3, d 4, do 5, dot 6, dots 3
        due("nodes", x.nodes(), 7);
        due("c", x.step(0, 3), 1);
        due("ca", x.step(1, 1), 2);
        due("car", x.step(2, 18), 3);
        due("cat", x.step(2, 20), 3);
        due("d", x.step(0, 4), 4);
        due("do", x.step(4, 15), 5);
        due("dot", x.step(5, 20), 6);
        due("dots", x.step(6, 19), 3);
        due("a letter of another node", x.step(1, 15), -1);
        due("behind the end", x.step(3, 1), -1);
        for (int node = -1; node <= 8; node++) {
            for (int letter : new int[] {Integer.MIN_VALUE, -1, 0, 27, 31, 32, 35, Integer.MAX_VALUE}) {
                due("step " + node + ", " + letter, x.step(node, letter), -1);
            }
        }
        for (int node : new int[] {Integer.MIN_VALUE, -1, 7, 8, 577, 624, Integer.MAX_VALUE}) {
            due("step " + node, x.step(node, 3), -1);
        }
        stepThroughLongWord();
    }

    private static void stepThroughLongWord() {
        WordGraph x = sealed("abcdefghijkl", "zyxwvutsrqpo");
        for (int i = 0; i < 12; i++) {
            due("step in the first word", x.step(i, i + 1), i + 1);
        }
        for (int letter = 0; letter <= 27; letter++) {
            due("step behind twelve letters", x.step(12, letter), -1);
        }
        due("the second word's first letter", x.step(0, 26), 13);
        due("the second word's last letter", x.step(23, 15), 12);
        WordGraph late = sealed("zyxwvutsrqpo");
        for (int letter = 0; letter <= 27; letter++) {
            due("step behind twelve letters, the first a z", late.step(12, letter), -1);
        }
    }

    private static void ends() {
        promise = "promise 10";
        WordGraph x = open("", "a", "abc");
        due("ends while open", x.ends(0), false);
        x.seal();
        due("the empty word", x.ends(0), true);
        due("a", x.ends(1), true);
        due("ab", x.ends(2), false);
        due("abc", x.ends(3), true);
        for (int node : new int[] {Integer.MIN_VALUE, -1, 4, 577, 624, Integer.MAX_VALUE}) {
            due("ends " + node, x.ends(node), false);
        }
        due("without the empty word", sealed("a").ends(0), false);
        due("without words", sealed().ends(0), false);
        due("twelve letters", sealed("abcdefghijkl").ends(12), true);
        due("eleven of them", sealed("abcdefghijkl").ends(11), false);
    }

    private static void endings() {
        promise = "promise 11";
        WordGraph x = open("car", "cat", "cats", "dot", "dots");
        due("endings while open", x.endings(0), 0);
        x.seal();
        // c 1, ca 2, car 3, cat 4, cats 3, d 5, do 6, dot 4, dots 3
        due("nodes", x.nodes(), 7);
        int[] want = {5, 3, 3, 1, 2, 2, 2};
        for (int node = 0; node < want.length; node++) {
            due("endings " + node, x.endings(node), want[node]);
        }
        for (int node : new int[] {Integer.MIN_VALUE, -1, 7, 577, 624, Integer.MAX_VALUE}) {
            due("endings " + node, x.endings(node), 0);
        }
        due("without words", sealed().endings(0), 0);
        due("the empty word alone", sealed("").endings(0), 1);
        due("48 words", sealed(fullList()).endings(0), 48);
        due("z and z with a letter more", sealed(fullList()).endings(2), 23);
    }

    private static void distance() {
        promise = "promise 12";
        WordGraph x = open("", "abcdefghijkl", "kitten", "lkjihgfedcba", "zzzzzzzzzzzz");
        for (int round = 0; round < 2; round++) {
            due("sitting, kitten", x.distance(word("sitting"), 2), 3);
            due("itself", x.distance(word("kitten"), 2), 0);
            due("a letter put in", x.distance(word("kittten"), 2), 1);
            due("a letter taken out", x.distance(word("kittn"), 2), 1);
            due("another letter", x.distance(word("kitton"), 2), 1);
            due("two letters exchanged are two steps", x.distance(word("iktten"), 2), 2);
            due("the empty words", x.distance(0L, 0), 0);
            due("twelve put in", x.distance(0L, 1), 12);
            due("twelve taken out", x.distance(word("abcdefghijkl"), 0), 12);
            due("twelve others", x.distance(word("aaaaaaaaaaaa"), 4), 12);
            due("one more than twelve between", x.distance(word("bcdefghijkla"), 1), 2);
            for (long w : NO_WORDS) {
                due("distance " + w, x.distance(w, 0), -1);
            }
            due("no such number", x.distance(0L, 5), -1);
            for (int k : WRONG_NUMBERS) {
                due("distance to " + k, x.distance(0L, k), -1);
            }
            x.seal();
        }
    }

    private static void distanceLeavesResults() {
        WordGraph x = sealed("car", "cat", "dot");
        due("search", x.search(word("cat"), 1), 2);
        due("distance", x.distance(word("dog"), 2), 1);
        dueResults(x, 1, 0, 0, 1);
    }

    private static void search() {
        promise = "promise 13";
        WordGraph x = open("bat", "ca", "car", "cat", "catalogue", "cats", "dog");
        for (int d = -1; d <= 4; d++) {
            due("search while open", x.search(word("cat"), d), -1);
        }
        due("search of no word while open", x.search(-1L, 1), -1);
        x.seal();
        due("search cat, 0", x.search(word("cat"), 0), 1);
        dueResults(x, 3, 0);
        due("search cat, 1", x.search(word("cat"), 1), 5);
        dueResults(x, 3, 0, 0, 1, 1, 1, 2, 1, 5, 1);
        due("search cat, 2", x.search(word("cat"), 2), 5);
        due("search cat, 3", x.search(word("cat"), 3), 6);
        dueResults(x, 3, 0, 0, 1, 1, 1, 2, 1, 5, 1, 6, 3);
        due("search dogs, 3", x.search(word("dogs"), 3), 2);
        dueResults(x, 6, 1, 5, 3);
        searchIsRefused(x);
        due("search of the empty word, 3", x.search(0L, 3), 5);
        dueResults(x, 1, 2, 0, 3, 2, 3, 3, 3, 6, 3);
        due("search without results", x.search(word("zzzzzzzzzzzz"), 3), 0);
        dueResults(x);
        due("search without words", sealed().search(0L, 0), 0);
        due("the empty word by itself", sealed("").search(0L, 0), 1);
        searchFull();
    }

    private static void searchIsRefused(WordGraph x) {
        for (int d : new int[] {Integer.MIN_VALUE, -1, 4, Integer.MAX_VALUE}) {
            due("search cat, " + d, x.search(word("cat"), d), -2);
        }
        for (long w : NO_WORDS) {
            due("search " + w, x.search(w, 3), -2);
        }
        dueResults(x, 6, 1, 5, 3);
    }

    private static void searchFull() {
        WordGraph x = sealed(fullList());
        due("search among 48", x.search(word("za"), 2), 48);
        due("the nearest", x.result(0), 26);
        due("its distance", x.far(0), 0);
        due("the next", x.result(1), 0);
        due("its distance", x.far(1), 1);
        due("then z", x.result(2), 25);
        due("then zb", x.result(3), 27);
        due("then zv", x.result(23), 47);
        due("its distance", x.far(23), 1);
        due("then b", x.result(24), 1);
        due("its distance", x.far(24), 2);
        due("the last", x.result(47), 24);
        due("its distance", x.far(47), 2);
        due("none behind it", x.result(48), -1);
    }

    private static void resultAndFar() {
        promise = "promises 14 and 15";
        WordGraph x = sealed("aa", "aaa", "aaaa", "aaaaa");
        dueResults(x);
        due("search", x.search(word("aaaa"), 3), 4);
        dueResults(x, 2, 0, 1, 1, 3, 1, 0, 2);
        due("questions", x.find(word("aa")) + x.step(0, 1) + x.endings(0) + x.nodes(), 0 + 1 + 4 + 6);
        due("a refused add", x.add(word("b")), -1);
        due("a refused seal", x.seal(), false);
        dueResults(x, 2, 0, 1, 1, 3, 1, 0, 2);
        due("fewer results", x.search(word("aaaaa"), 0), 1);
        dueResults(x, 3, 0);
        x.clear();
        dueResults(x);
        x.add(word("aaaa"));
        dueResults(x);
        x.seal();
        dueResults(x);
    }

    public static void main(String[] args) {
        newObject();
        add();
        seal();
        clear();
        size();
        word();
        find();
        nodes();
        step();
        ends();
        endings();
        distance();
        distanceLeavesResults();
        search();
        resultAndFar();
        System.out.println(asked + " answers, " + wrong + " of them wrong");
        if (wrong != 0) {
            System.exit(1);
        }
    }
}
