import java.util.ArrayList;
import java.util.List;

/**
 * What the tests share: a sentence of the document with the test that is its own, the comparison of
 * an answer with the one that is due, words from texts, and dictionaries at the document's limits.
 */
abstract class Check {
    static final int[] FAR_OFF = {Integer.MIN_VALUE, Integer.MIN_VALUE + 1, -1000, 1000, Integer.MAX_VALUE};

    private static String sentence = "";
    private static int sentences = 0;
    private static int asked = 0;
    private static int wrong = 0;

    static void sentence(String text, Runnable test) {
        sentence = text;
        sentences++;
        int before = asked;
        try {
            test.run();
        } catch (RuntimeException thrown) {
            wrong++;
            System.out.println(sentence + ": " + thrown);
        }
        if (asked == before) {
            wrong++;
            System.out.println(sentence + ": nothing was compared");
        }
    }

    static void finish() {
        System.out.println(sentences + " sentences, " + asked + " answers, " + wrong + " of them wrong");
        if (wrong != 0) {
            System.exit(1);
        }
    }

    static void due(String call, Object got, Object want) {
        asked++;
        if (!got.equals(want)) {
            wrong++;
            System.out.println(sentence + ": " + call + " answered " + got + ", due is " + want);
        }
    }

    static void due(String call, long got, long want) {
        due(call, Long.valueOf(got), Long.valueOf(want));
    }

    static void due(String call, boolean got, boolean want) {
        due(call, Boolean.valueOf(got), Boolean.valueOf(want));
    }

    /** Results and their distances in turn; none in front of them and none behind. */
    static void dueResults(WordGraph x, int... numbersAndFars) {
        int count = numbersAndFars.length / 2;
        for (int i = 0; i < count; i++) {
            due("result " + i, x.result(i), numbersAndFars[2 * i]);
            due("far " + i, x.far(i), numbersAndFars[2 * i + 1]);
        }
        for (int i : new int[] {-1, count, count + 1}) {
            due("result " + i, x.result(i), -1);
            due("far " + i, x.far(i), -1);
        }
    }

    static long word(String letters) {
        long w = 0L;
        for (int i = 0; i < letters.length(); i++) {
            w |= letter(letters.charAt(i) - 'a' + 1, i);
        }
        return w;
    }

    /** A letter at a place; also such numbers of five bits as are no letters. */
    static long letter(int letter, int place) {
        return (long) letter << (55 - 5 * place);
    }

    static WordGraph open(String... words) {
        WordGraph x = new WordGraph();
        for (String letters : words) {
            due("add " + letters, x.add(word(letters)), 0);
        }
        return x;
    }

    static WordGraph sealed(String... words) {
        WordGraph x = open(words);
        due("seal", x.seal(), true);
        return x;
    }

    /** 48 words of one or two letters: a, b .. z, then za .. zv. */
    static String[] fullList() {
        List<String> words = new ArrayList<>();
        for (char c = 'a'; c <= 'z'; c++) {
            words.add(String.valueOf(c));
        }
        for (char c = 'a'; c <= 'v'; c++) {
            words.add("z" + c);
        }
        return words.toArray(new String[0]);
    }

    /**
     * 48 words of twelve letters: 24 first letters, no beginning of 2 to 10 letters shared and none
     * with the endings of another, 26 last letters, so that the graph is nearly as large as can be.
     */
    static String[] longWords() {
        String[] words = new String[48];
        for (int k = 0; k < 48; k++) {
            char first = (char) ('a' + k / 2);
            char second = k % 2 == 0 ? 'a' : 'b';
            char last = (char) ('a' + k % 26);
            char before = (char) ('a' + k / 26);
            words[k] = "" + first + second + "mmmmmmmm" + before + last;
        }
        return words;
    }

    static final int LONG_WORDS_NODES = 1 + 24 + 48 * 9 + 26 + 1;

    /** Longs that are made like a word but for one thing, and some that are far from it. */
    static long[] noWords() {
        List<Long> all = new ArrayList<>();
        all.addAll(List.of(-1L, -2L, Long.MIN_VALUE, Long.MIN_VALUE + 1L, Long.MAX_VALUE, (1L << 60) - 1L));
        addWrongLetters(all);
        addGaps(all);
        addOtherBits(all);
        return all.stream().mapToLong(Long::longValue).toArray();
    }

    /** 27 .. 31 at each place behind letters. */
    private static void addWrongLetters(List<Long> all) {
        for (int place = 0; place < 12; place++) {
            for (int letter = 27; letter <= 31; letter++) {
                all.add(word("m".repeat(place)) | letter(letter, place));
            }
        }
    }

    /** No letter at a place, and one or the last one at a place behind it. */
    private static void addGaps(List<Long> all) {
        for (int gap = 0; gap < 11; gap++) {
            all.add(word("m".repeat(gap)) | letter(1, gap + 1));
            all.add(word("m".repeat(gap)) | letter(26, 11));
            all.add(word("m".repeat(gap)) | letter(1, 11));
        }
    }

    /** The four bits in front of the first letter. */
    private static void addOtherBits(List<Long> all) {
        for (int bit = 60; bit < 64; bit++) {
            for (String letters : new String[] {"", "a", "cat", "zzzzzzzzzzzz"}) {
                all.add(1L << bit | word(letters));
            }
        }
    }
}
