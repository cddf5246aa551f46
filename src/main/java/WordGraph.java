/**
 * A dictionary of at most 48 words, kept as the smallest graph that reads them, in which words are
 * found in spite of up to three errors.
 *
 * A beginning is held as a word's number and a number of letters. It is NEW at the first word that
 * has it, and there its node is kept; the words are in order, so all words with that beginning
 * follow one another from there on.
 */
public final class WordGraph {
    private static final int MOST_WORDS = 48;
    private static final int MOST_LETTERS = 12;
    private static final int LAST_LETTER = 26;
    private static final int MOST_ERRORS = 3;

    private static final int LETTER_BITS = 5;
    private static final int LETTER_MASK = 31;
    private static final int WORD_BITS = 60;
    private static final long WORD_MASK = (1L << WORD_BITS) - 1L;

    /** How many beginnings one word has, the empty one and itself among them. */
    private static final int WIDTH = MOST_LETTERS + 1;
    /** Each word can bring a node for every letter; the empty beginning brings one more. */
    private static final int MOST_NODES = MOST_WORDS * MOST_LETTERS + 1;

    private final long[] words = new long[MOST_WORDS];
    private final int[] lengths = new int[MOST_WORDS];
    /** The letters of the shortest beginning that is new at a word. */
    private final int[] firstNew = new int[MOST_WORDS];
    private int wordCount;
    private boolean sealed;

    /** The node of each beginning, at word * WIDTH + letters; filled only where it is new. */
    private final int[] nodeOf = new int[MOST_WORDS * WIDTH];
    /** The beginning with which a node is first met: its word and its number of letters. */
    private final int[] nodeWord = new int[MOST_NODES];
    private final int[] nodeLetters = new int[MOST_NODES];
    private int nodeCount;

    private final int[] resultWord = new int[MOST_WORDS];
    private final int[] resultFar = new int[MOST_WORDS];
    private int resultCount;

    /** Row k has the distances of a word's first k letters to every beginning of the asked word. */
    private final int[] table = new int[WIDTH * WIDTH];
    private final int[] wordFar = new int[MOST_WORDS];

    public WordGraph() {
        clear();
    }

    public int add(long w) {
        if (sealed) {
            return -1;
        }
        if (!isWord(w)) {
            return -2;
        }
        if (wordCount >= MOST_WORDS) {
            return -3;
        }
        if (wordCount > 0 && w <= words[wordCount - 1]) {
            return -4;
        }
        words[wordCount] = w;
        lengths[wordCount] = lengthOf(w);
        firstNew[wordCount] = wordCount == 0 ? 0 : sharedLetters(words[wordCount - 1], w) + 1;
        wordCount++;
        return 0;
    }

    public boolean seal() {
        if (sealed) {
            return false;
        }
        sealed = true;
        if (wordCount == 0) {
            makeNode(0, 0);
        }
        for (int k = 0; k < wordCount; k++) {
            numberBeginnings(k);
        }
        return true;
    }

    public void clear() {
        wordCount = 0;
        sealed = false;
        nodeCount = 0;
        resultCount = 0;
    }

    public int size() {
        return wordCount;
    }

    public long word(int k) {
        return hasWord(k) ? words[k] : -1L;
    }

    public int find(long w) {
        for (int k = 0; k < wordCount; k++) {
            if (words[k] == w) {
                return k;
            }
        }
        return -1;
    }

    public int nodes() {
        return nodeCount;
    }

    public int step(int node, int letter) {
        if (!hasNode(node) || letter < 1 || letter > LAST_LETTER) {
            return -1;
        }
        int first = nodeWord[node];
        int letters = nodeLetters[node];
        for (int k = first; k < wordCount && beginsAs(k, first, letters); k++) {
            if (letterAt(words[k], letters) == letter) {
                // The first word with the longer beginning, so that it is new here.
                return nodeOf[k * WIDTH + letters + 1];
            }
        }
        return -1;
    }

    public boolean ends(int node) {
        if (!hasNode(node)) {
            return false;
        }
        int first = nodeWord[node];
        // A beginning that is a word comes before all the longer ones; node 0 may be without words.
        return first < wordCount && lengths[first] == nodeLetters[node];
    }

    public int endings(int node) {
        if (!hasNode(node)) {
            return 0;
        }
        int first = nodeWord[node];
        int count = 0;
        for (int k = first; k < wordCount && beginsAs(k, first, nodeLetters[node]); k++) {
            count++;
        }
        return count;
    }

    public int distance(long w, int k) {
        if (!isWord(w) || !hasWord(k)) {
            return -1;
        }
        int length = lengthOf(w);
        fillFirstRow(length);
        return farOfWord(k, 1, w, length);
    }

    public int search(long w, int d) {
        if (!sealed) {
            return -1;
        }
        if (!isWord(w) || d < 0 || d > MOST_ERRORS) {
            return -2;
        }
        measureAll(w);
        resultCount = 0;
        for (int far = 0; far <= d; far++) {
            takeResults(far);
        }
        return resultCount;
    }

    public int result(int i) {
        return hasResult(i) ? resultWord[i] : -1;
    }

    public int far(int i) {
        return hasResult(i) ? resultFar[i] : -1;
    }

    private boolean hasWord(int k) {
        return k >= 0 && k < wordCount;
    }

    /** None while it is open, since there are no nodes then. */
    private boolean hasNode(int node) {
        return node >= 0 && node < nodeCount;
    }

    private boolean hasResult(int i) {
        return i >= 0 && i < resultCount;
    }

    /** 0 behind the end of a word; at 12 too, where step looks when a word has twelve letters. */
    private static int letterAt(long w, int i) {
        if (i >= MOST_LETTERS) {
            return 0;
        }
        return (int) (w >>> (WORD_BITS - LETTER_BITS * (i + 1))) & LETTER_MASK;
    }

    private static int lengthOf(long w) {
        int length = 0;
        while (length < MOST_LETTERS && letterAt(w, length) != 0) {
            length++;
        }
        return length;
    }

    private static boolean isWord(long w) {
        if (w < 0L || w > WORD_MASK) {
            return false;
        }
        int length = lengthOf(w);
        for (int i = 0; i < length; i++) {
            if (letterAt(w, i) > LAST_LETTER) {
                return false;
            }
        }
        return restOf(w, length) == 0L;
    }

    /** What follows the first letters of a word, itself made like a word. */
    private static long restOf(long w, int letters) {
        return (w << (LETTER_BITS * letters)) & WORD_MASK;
    }

    private static int sharedLetters(long v, long w) {
        int shared = 0;
        while (shared < MOST_LETTERS && letterAt(v, shared) == letterAt(w, shared)) {
            shared++;
        }
        return shared;
    }

    /** Whether word k has the same first letters as the word first. */
    private boolean beginsAs(int k, int first, int letters) {
        return (words[k] ^ words[first]) >>> (WORD_BITS - LETTER_BITS * letters) == 0L;
    }

    private int makeNode(int k, int letters) {
        nodeWord[nodeCount] = k;
        nodeLetters[nodeCount] = letters;
        nodeCount++;
        return nodeCount - 1;
    }

    /** The others have had their nodes at an earlier word. */
    private void numberBeginnings(int k) {
        for (int letters = firstNew[k]; letters <= lengths[k]; letters++) {
            int node = earlierNode(k, letters);
            nodeOf[k * WIDTH + letters] = node >= 0 ? node : makeNode(k, letters);
        }
    }

    /**
     * The node of an earlier beginning with the same endings, or -1. The first of its endings is
     * the rest of the word at which it is new, so that each earlier word has only one beginning to
     * look at: the one that leaves a rest as long as this one's.
     */
    private int earlierNode(int k, int letters) {
        int restLength = lengths[k] - letters;
        for (int j = 0; j < k; j++) {
            int others = lengths[j] - restLength;
            if (others >= firstNew[j] && sameEndings(k, letters, j, others)) {
                return nodeOf[j * WIDTH + others];
            }
        }
        return -1;
    }

    /** Compares the endings of two beginnings that are new at the words k and j, in order. */
    private boolean sameEndings(int k, int letters, int j, int others) {
        for (int t = 0; t < MOST_WORDS; t++) {
            boolean here = k + t < wordCount && beginsAs(k + t, k, letters);
            boolean there = j + t < wordCount && beginsAs(j + t, j, others);
            if (here != there) {
                return false;
            }
            if (!here) {
                return true;
            }
            if (restOf(words[k + t], letters) != restOf(words[j + t], others)) {
                return false;
            }
        }
        return true;
    }

    private void fillFirstRow(int length) {
        for (int i = 0; i <= length; i++) {
            table[i] = i;
        }
    }

    private void fillRow(int row, int letter, long w, int length) {
        int here = row * WIDTH;
        int above = here - WIDTH;
        table[here] = row;
        for (int i = 1; i <= length; i++) {
            int other = letterAt(w, i - 1) == letter ? 0 : 1;
            int moved = Math.min(table[above + i], table[here + i - 1]) + 1;
            table[here + i] = Math.min(table[above + i - 1] + other, moved);
        }
    }

    /** The distance of word k to w, which has the given length; rows before from are right. */
    private int farOfWord(int k, int from, long w, int length) {
        for (int row = from; row <= lengths[k]; row++) {
            fillRow(row, letterAt(words[k], row - 1), w, length);
        }
        return table[lengths[k] * WIDTH + length];
    }

    /** Goes through the words in order, so that the rows of shared letters are filled only once. */
    private void measureAll(long w) {
        int length = lengthOf(w);
        fillFirstRow(length);
        for (int k = 0; k < wordCount; k++) {
            wordFar[k] = farOfWord(k, Math.max(firstNew[k], 1), w, length);
        }
    }

    private void takeResults(int far) {
        for (int k = 0; k < wordCount; k++) {
            if (wordFar[k] == far) {
                resultWord[resultCount] = k;
                resultFar[resultCount] = far;
                resultCount++;
            }
        }
    }
}
