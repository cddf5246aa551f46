/** The sentences of the promises, each with the cases at its boundaries and on either side of them. */
public final class PromiseTest extends Check {
    private static final String TWELVE = "abcdefghijkl";
    private static final String LAST = "zzzzzzzzzzzz";

    /** Letters of a step that are none; behind 26 also such as look like a letter in five bits. */
    private static final int[] NO_LETTERS = {
        Integer.MIN_VALUE, Integer.MIN_VALUE + 1, -31, -1, 0, 27, 28, 31, 32, 33, 35, 58, 64, 65, 257,
        Integer.MAX_VALUE
    };

    // Promise 1: A new object

    private static void newObjectIsOpen() {
        due("nodes", new WordGraph().nodes(), 0);
        due("search", new WordGraph().search(0L, 0), -1);
        due("step", new WordGraph().step(0, 1), -1);
        due("ends", new WordGraph().ends(0), false);
        due("endings", new WordGraph().endings(0), 0);
        due("add", new WordGraph().add(0L), 0);
        due("seal", new WordGraph().seal(), true);
    }

    private static void newObjectHasNoWords() {
        WordGraph x = new WordGraph();
        due("size", x.size(), 0);
        due("word 0", x.word(0), -1L);
        due("find of the empty word", x.find(0L), -1);
        due("find a", x.find(word("a")), -1);
        due("distance", x.distance(0L, 0), -1);
        due("the least word is taken, for there is no last one", x.add(0L), 0);
    }

    private static void newObjectHasNoResults() {
        WordGraph x = new WordGraph();
        dueResults(x);
        due("seal", x.seal(), true);
        dueResults(x);
    }

    private static void objectsAreApart() {
        WordGraph one = sealed("car", "cat");
        due("search", one.search(word("cat"), 1), 2);
        WordGraph two = new WordGraph();
        due("size of the new one", two.size(), 0);
        dueResults(two);
        due("add to the new one", two.add(word("abcd")), 0);
        due("add to the new one", two.add(word("zyxw")), 0);
        due("seal of the new one", two.seal(), true);
        due("search in the new one", two.search(word("abc"), 3), 1);
        due("size", one.size(), 2);
        due("word 0", one.word(0), word("car"));
        due("nodes", one.nodes(), 4);
        due("nodes of the new one", two.nodes(), 8);
        due("cat", one.step(2, 20), 3);
        due("zyx of the new one", two.step(6, 24), 7);
        due("ends", one.ends(3), true);
        due("ends of the new one", two.ends(3), false);
        due("endings", one.endings(1), 2);
        due("endings of the new one", two.endings(1), 1);
        due("distance", one.distance(0L, 0), 3);
        due("distance in the new one", two.distance(0L, 0), 4);
        dueResults(one, 1, 0, 0, 1);
        dueResults(two, 0, 1);
    }

    // Promise 2: add

    private static void addTakesAWord() {
        WordGraph x = new WordGraph();
        due("the empty word", x.add(0L), 0);
        due("the least word of one letter", x.add(word("a")), 0);
        due("the least word of twelve letters", x.add(word("aaaaaaaaaaaa")), 0);
        due("the next one", x.add(word("aaaaaaaaaaab")), 0);
        due("the greatest word", x.add(word(LAST)), 0);
        due("size", x.size(), 5);
        due("the first", x.word(0), 0L);
        due("the last", x.word(4), word(LAST));
    }

    private static void addSealedComesFirst() {
        for (String[] words : new String[][] {{}, {""}, {"cat"}, fullList()}) {
            WordGraph x = sealed(words);
            due("a good word", x.add(word(LAST)), -1);
            due("no word", x.add(-1L), -1);
            due("no word of letters", x.add(1L), -1);
            due("not greater", x.add(0L), -1);
            due("not greater, the first", x.add(x.word(0)), -1);
            due("size", x.size(), words.length);
        }
    }

    private static void addNoWordComesBeforeFullAndOrder() {
        due("of a new object", new WordGraph().add(1L), -2);
        for (long w : noWords()) {
            due("less than the last, or greater", open(LAST).add(w), -2);
        }
        WordGraph full = open(fullList());
        due("when full, less than the last", full.add(1L), -2);
        due("when full, below 0", full.add(-1L), -2);
        due("when full, greater than the last", full.add(word("zz") | 1L), -2);
    }

    private static void addFullComesBeforeOrder() {
        String[] words = fullList();
        WordGraph x = new WordGraph();
        for (int k = 0; k < 47; k++) {
            due("add", x.add(word(words[k])), 0);
        }
        due("not greater when there are 47", x.add(word(words[46])), -4);
        due("the 48th", x.add(word(words[47])), 0);
        due("greater", x.add(word("zw")), -3);
        due("equal", x.add(word("zv")), -3);
        due("less", x.add(word("a")), -3);
        due("the empty word", x.add(0L), -3);
        due("size", x.size(), 48);
        due("the last word", x.word(47), word("zv"));
        due("none behind it", x.word(48), -1L);
    }

    private static void addNotGreaterThanTheLast() {
        WordGraph x = open("b", "m");
        due("the first one", x.add(word("b")), -4);
        due("less than the first", x.add(word("a")), -4);
        due("between them", x.add(word("c")), -4);
        due("the empty word", x.add(0L), -4);
        due("the next less one of twelve letters", x.add(word("lzzzzzzzzzzz")), -4);
        due("equal", x.add(word("m")), -4);
        due("size", x.size(), 2);
        due("the next greater one", x.add(word("ma")), 0);
        due("equal to that", x.add(word("ma")), -4);
        due("the last one of that", x.add(word("m")), -4);
        due("size", x.size(), 3);
    }

    private static void addNotGreaterIfThereIsAWord() {
        due("the empty word without words", new WordGraph().add(0L), 0);
        WordGraph x = open("");
        due("the empty word again", x.add(0L), -4);
        due("the next word", x.add(word("a")), 0);
        due("the empty word yet again", x.add(0L), -4);
        WordGraph y = open(LAST);
        y.clear();
        due("the empty word behind clear", y.add(0L), 0);
    }

    private static void addOfTheGreatestWord() {
        WordGraph x = open("zzzzzzzzzzzy");
        due("the greatest", x.add(word(LAST)), 0);
        due("the greatest again", x.add(word(LAST)), -4);
        due("one letter less", x.add(word("zzzzzzzzzzz")), -4);
    }

    // Promise 3: seal

    private static void sealSeals() {
        for (String[] words : new String[][] {{""}, {"a"}, {"car", "cat"}, fullList(), longWords()}) {
            WordGraph x = open(words);
            due("seal", x.seal(), true);
            due("add", x.add(word(LAST)), -1);
            due("search", x.search(word(words[0]), 0), 1);
            due("size", x.size(), words.length);
        }
    }

    private static void sealWithoutWords() {
        WordGraph x = new WordGraph();
        due("seal", x.seal(), true);
        due("nodes", x.nodes(), 1);
        due("ends", x.ends(0), false);
        due("endings", x.endings(0), 0);
        due("size", x.size(), 0);
        due("add", x.add(0L), -1);
        due("search", x.search(0L, 3), 0);
    }

    private static void sealIsRefusedWhenSealed() {
        for (String[] words : new String[][] {{}, {""}, {"car", "cat"}, fullList(), longWords()}) {
            WordGraph x = sealed(words);
            int nodes = x.nodes();
            due("seal again", x.seal(), false);
            due("and again", x.seal(), false);
            due("nodes", x.nodes(), nodes);
            due("size", x.size(), words.length);
        }
    }

    // Promise 4: clear

    private static WordGraph searched(String... words) {
        WordGraph x = sealed(words);
        x.search(0L, 3);
        return x;
    }

    /** One object for each state that the document knows, cleared. */
    private static WordGraph[] cleared() {
        WordGraph[] all = {
            new WordGraph(), open("cat"), open(fullList()), sealed(), sealed("", "cat"), sealed(fullList()),
            sealed(longWords()), searched(), searched("a", "cat"), searched(fullList())
        };
        for (WordGraph x : all) {
            x.clear();
        }
        return all;
    }

    private static void clearOpens() {
        for (WordGraph x : cleared()) {
            due("nodes", x.nodes(), 0);
            due("search", x.search(0L, 0), -1);
            due("step", x.step(0, 1), -1);
            due("ends", x.ends(0), false);
            due("endings", x.endings(0), 0);
            due("add", x.add(0L), 0);
            due("seal", x.seal(), true);
            due("seal again", x.seal(), false);
        }
    }

    private static void clearTakesTheWords() {
        for (WordGraph x : cleared()) {
            due("size", x.size(), 0);
            due("word 0", x.word(0), -1L);
            due("word 47", x.word(47), -1L);
            due("find of the empty word", x.find(0L), -1);
            due("find cat", x.find(word("cat")), -1);
            due("find a", x.find(word("a")), -1);
            due("distance", x.distance(0L, 0), -1);
            due("seal", x.seal(), true);
            due("one node", x.nodes(), 1);
            due("step", x.step(0, 1), -1);
            due("ends", x.ends(0), false);
            due("endings", x.endings(0), 0);
            due("search", x.search(word("cat"), 3), 0);
        }
    }

    private static void clearTakesTheResults() {
        for (WordGraph x : cleared()) {
            dueResults(x);
            due("add", x.add(0L), 0);
            dueResults(x);
            due("seal", x.seal(), true);
            dueResults(x);
        }
    }

    private static void clearedIsAsNew() {
        String[] words = fullList();
        for (WordGraph x : cleared()) {
            for (int k = 0; k < 48; k++) {
                due("add " + words[k], x.add(word(words[k])), 0);
            }
            due("one too many", x.add(word("zz")), -3);
            due("seal", x.seal(), true);
            due("nodes", x.nodes(), 3);
            due("z", x.step(0, 26), 2);
            due("zv", x.step(2, 22), 1);
            due("an old node", x.endings(3), 0);
            due("search", x.search(word("zv"), 0), 1);
            dueResults(x, 47, 0);
        }
    }

    private static void clearTwice() {
        for (WordGraph x : cleared()) {
            x.clear();
            due("size", x.size(), 0);
            due("seal", x.seal(), true);
            x.clear();
            due("seal behind clear", x.seal(), true);
            due("nodes", x.nodes(), 1);
        }
    }

    // Promise 5: size

    private static void sizeFromNoneToFull() {
        WordGraph x = new WordGraph();
        String[] words = fullList();
        for (int k = 0; k < words.length; k++) {
            due("size", x.size(), k);
            due("add", x.add(word(words[k])), 0);
            due("a refused add", x.add(word(words[k])), k < 47 ? -4 : -3);
        }
        due("size when full", x.size(), 48);
        due("add", x.add(word(LAST)), -3);
        due("size behind a refused add", x.size(), 48);
        due("seal", x.seal(), true);
        due("size when sealed", x.size(), 48);
        due("size without words", sealed().size(), 0);
        due("size of the empty word", sealed("").size(), 1);
    }

    // Promise 6: word

    private static void wordSealedOrOpen() {
        WordGraph x = open("", "ab", "abc", LAST);
        for (int round = 0; round < 2; round++) {
            due("word 0", x.word(0), 0L);
            due("word 1", x.word(1), word("ab"));
            due("word 2", x.word(2), word("abc"));
            due("word 3", x.word(3), 966966423218645850L);
            x.seal();
        }
    }

    private static void wordThereIsNone() {
        for (String[] words : new String[][] {{}, {""}, {"a", "b"}, fullList()}) {
            WordGraph x = open(words);
            for (int round = 0; round < 2; round++) {
                due("word -1", x.word(-1), -1L);
                due("word behind the last", x.word(words.length), -1L);
                due("word two behind the last", x.word(words.length + 1), -1L);
                for (int k : FAR_OFF) {
                    due("word " + k, x.word(k), -1L);
                }
                x.seal();
            }
        }
    }

    // Promise 7: find

    private static void findAlsoWhileOpen() {
        String[] words = {"", "ab", "abc", "b", LAST};
        WordGraph x = new WordGraph();
        for (int k = 0; k < words.length; k++) {
            due("before it is added", x.find(word(words[k])), -1);
            due("add", x.add(word(words[k])), 0);
            due("while it is open", x.find(word(words[k])), k);
        }
        due("seal", x.seal(), true);
        for (int k = 0; k < words.length; k++) {
            due("when it is sealed", x.find(word(words[k])), k);
        }
    }

    private static void findNotInTheDictionary() {
        WordGraph x = open("ab", "abc", "b", LAST);
        for (int round = 0; round < 2; round++) {
            due("the empty word", x.find(0L), -1);
            due("a beginning", x.find(word("a")), -1);
            due("a longer one", x.find(word("abcd")), -1);
            due("one between", x.find(word("abd")), -1);
            due("eleven letters of twelve", x.find(word("zzzzzzzzzzz")), -1);
            due("below the first", x.find(word("aa")), -1);
            due("-1, as word says", x.find(-1L), -1);
            for (long w : noWords()) {
                due("find " + w, x.find(w), -1);
            }
            x.seal();
        }
        due("without words, open", open().find(0L), -1);
        due("without words, sealed", sealed().find(0L), -1);
    }

    private static void findBehindClear() {
        WordGraph x = sealed("", "a", "b");
        x.clear();
        due("the empty word", x.find(0L), -1);
        due("an old word", x.find(word("a")), -1);
        due("add", x.add(word("b")), 0);
        due("the new one", x.find(word("b")), 0);
        due("an old word yet", x.find(word("a")), -1);
    }

    // Promise 8: nodes

    private static void nodesWhileOpen() {
        WordGraph x = new WordGraph();
        due("without words", x.nodes(), 0);
        due("add", x.add(0L), 0);
        due("with the empty word", x.nodes(), 0);
        due("add", x.add(word(TWELVE)), 0);
        due("with words", x.nodes(), 0);
        due("when full", open(fullList()).nodes(), 0);
        x.seal();
        x.clear();
        due("behind clear", x.nodes(), 0);
    }

    private static void nodesWhenSealed() {
        due("without words", sealed().nodes(), 1);
        due("the empty word alone", sealed("").nodes(), 1);
        due("one letter", sealed("a").nodes(), 2);
        due("twelve letters", sealed(TWELVE).nodes(), 13);
        due("tap, taps, top, tops", sealed("tap", "taps", "top", "tops").nodes(), 5);
        due("rows of one letter", sealed("", "a", "aa", "aaa").nodes(), 4);
        due("all rows of one letter", sealed(rowsOfOneLetter()).nodes(), 13);
        due("48 words", sealed(fullList()).nodes(), 3);
        due("48 long words", sealed(longWords()).nodes(), LONG_WORDS_NODES);
    }

    private static String[] rowsOfOneLetter() {
        String[] words = new String[13];
        for (int length = 0; length <= 12; length++) {
            words[length] = "a".repeat(length);
        }
        return words;
    }

    // Promise 9: step

    /** c 1, ca 2, car and cat 3, d 4, do 5, dot 6, dots 3. */
    private static final String[] CAR_TO_DOTS = {"car", "cat", "dot", "dots"};

    private static void stepToTheLongerBeginning() {
        WordGraph x = sealed(CAR_TO_DOTS);
        int[][] steps = {
            {0, 3, 1}, {1, 1, 2}, {2, 18, 3}, {2, 20, 3}, {0, 4, 4}, {4, 15, 5}, {5, 20, 6}, {6, 19, 3}
        };
        due("nodes", x.nodes(), 7);
        for (int node = 0; node < 7; node++) {
            for (int letter = 1; letter <= 26; letter++) {
                int want = -1;
                for (int[] s : steps) {
                    want = s[0] == node && s[1] == letter ? s[2] : want;
                }
                due("step " + node + ", " + letter, x.step(node, letter), want);
            }
        }
    }

    private static void stepThereIsNone() {
        WordGraph x = sealed(CAR_TO_DOTS);
        due("a letter of another node", x.step(1, 15), -1);
        due("a letter of a later word", x.step(2, 26), -1);
        due("behind the end", x.step(3, 1), -1);
        for (String letters : new String[] {TWELVE, "zyxwvutsrqpo", LAST, "aaaaaaaaaaaa"}) {
            WordGraph y = sealed(letters);
            for (int letter = 1; letter <= 26; letter++) {
                due("behind twelve letters " + letter, y.step(12, letter), -1);
            }
        }
        for (int letter = 1; letter <= 26; letter++) {
            due("without words", sealed().step(0, letter), -1);
            due("behind the empty word", sealed("").step(0, letter), -1);
        }
    }

    private static void stepNoSuchNode() {
        for (String[] words : new String[][] {{}, {""}, CAR_TO_DOTS, fullList(), longWords()}) {
            WordGraph x = sealed(words);
            int nodes = x.nodes();
            for (int letter = 1; letter <= 26; letter++) {
                due("node -1", x.step(-1, letter), -1);
                due("node behind the last", x.step(nodes, letter), -1);
                due("node two behind the last", x.step(nodes + 1, letter), -1);
            }
            for (int node : FAR_OFF) {
                due("node " + node, x.step(node, 1), -1);
            }
        }
    }

    private static void stepNoSuchLetter() {
        for (String[] words : new String[][] {{}, {""}, {"a", "b"}, {"z"}, CAR_TO_DOTS, {LAST}}) {
            WordGraph x = sealed(words);
            for (int node = -1; node <= x.nodes(); node++) {
                for (int letter : NO_LETTERS) {
                    due("step " + node + ", " + letter, x.step(node, letter), -1);
                }
            }
        }
    }

    private static void stepWithTheFirstAndTheLastLetter() {
        WordGraph x = sealed("a", "z", "zz");
        due("a", x.step(0, 1), 1);
        due("z", x.step(0, 26), 2);
        due("zz", x.step(2, 26), 1);
        due("za", x.step(2, 1), -1);
    }

    private static void stepFromTheLastNode() {
        WordGraph x = sealed(longWords());
        int last = LONG_WORDS_NODES - 1;
        due("nodes", x.nodes(), LONG_WORDS_NODES);
        // The last word's eleven letters have the endings of word 21's, and its node was the last then.
        due("to the last node", x.step(last - 1, 13), last);
        due("from the last node", x.step(last, 2), 13 + 10 + 10 * 21 - 1);
        due("the ends of the last node", x.ends(last), false);
        due("the endings of the last node", x.endings(last), 1);
        for (int letter = 1; letter <= 26; letter++) {
            if (letter != 2) {
                due("another letter", x.step(last, letter), -1);
            }
        }
    }

    private static void stepWhileOpen() {
        WordGraph x = open(CAR_TO_DOTS);
        due("of the first node", x.step(0, 3), -1);
        due("of a later node", x.step(1, 1), -1);
        due("without words", open().step(0, 1), -1);
        x.seal();
        due("when sealed", x.step(0, 3), 1);
        x.clear();
        due("behind clear", x.step(0, 3), -1);
        due("add", x.add(word("car")), 0);
        due("behind clear with a word", x.step(0, 3), -1);
    }

    // Promise 10: ends

    private static void endsIfTheBeginningsAreWords() {
        WordGraph x = sealed("", "a", "abc");
        due("the empty word", x.ends(0), true);
        due("a", x.ends(1), true);
        due("ab", x.ends(2), false);
        due("abc", x.ends(3), true);
        due("without the empty word", sealed("a").ends(0), false);
        due("eleven letters of twelve", sealed(TWELVE).ends(11), false);
        due("twelve letters", sealed(TWELVE).ends(12), true);
        due("eleven letters and twelve", sealed("abcdefghijk", TWELVE).ends(11), true);
        due("without words", sealed().ends(0), false);
    }

    private static void endsNoSuchNode() {
        for (String[] words : new String[][] {{}, {""}, {"", "a"}, fullList(), longWords()}) {
            WordGraph x = sealed(words);
            due("node -1", x.ends(-1), false);
            due("node behind the last", x.ends(x.nodes()), false);
            due("node two behind the last", x.ends(x.nodes() + 1), false);
            for (int node : FAR_OFF) {
                due("node " + node, x.ends(node), false);
            }
        }
    }

    private static void endsWhileOpen() {
        WordGraph x = open("", "a");
        due("while open", x.ends(0), false);
        due("while open", x.ends(1), false);
        x.seal();
        due("when sealed", x.ends(0), true);
        x.clear();
        due("behind clear", x.ends(0), false);
        due("add", x.add(0L), 0);
        due("behind clear with a word", x.ends(0), false);
    }

    // Promise 11: endings

    private static void endingsOfABeginning() {
        WordGraph x = sealed("car", "cat", "cats", "dot", "dots");
        // c 1, ca 2, car 3, cat 4, cats 3, d 5, do 6, dot 4, dots 3
        int[] want = {5, 3, 3, 1, 2, 2, 2};
        due("nodes", x.nodes(), 7);
        for (int node = 0; node < want.length; node++) {
            due("endings " + node, x.endings(node), want[node]);
        }
        due("48 words", sealed(fullList()).endings(0), 48);
        due("z and z with a letter more", sealed(fullList()).endings(2), 23);
        due("twelve letters", sealed(TWELVE).endings(12), 1);
    }

    private static void endingsOfNodeZeroWithoutWords() {
        due("without words", sealed().endings(0), 0);
        due("the empty word alone", sealed("").endings(0), 1);
        due("one word", sealed("a").endings(0), 1);
    }

    private static void endingsNoSuchNode() {
        for (String[] words : new String[][] {{}, {""}, {"", "a"}, fullList(), longWords()}) {
            WordGraph x = sealed(words);
            due("node -1", x.endings(-1), 0);
            due("node behind the last", x.endings(x.nodes()), 0);
            due("node two behind the last", x.endings(x.nodes() + 1), 0);
            for (int node : FAR_OFF) {
                due("node " + node, x.endings(node), 0);
            }
        }
    }

    private static void endingsWhileOpen() {
        WordGraph x = open("", "a");
        due("while open", x.endings(0), 0);
        due("while open", x.endings(1), 0);
        x.seal();
        due("when sealed", x.endings(0), 2);
        x.clear();
        due("behind clear", x.endings(0), 0);
        due("add", x.add(0L), 0);
        due("behind clear with a word", x.endings(0), 0);
    }

    // Promise 12: distance

    private static void distanceItMayBeOpen() {
        WordGraph x = open("", TWELVE, "kitten", LAST);
        for (int round = 0; round < 2; round++) {
            due("the empty words", x.distance(0L, 0), 0);
            due("twelve put in", x.distance(0L, 1), 12);
            due("twelve taken out", x.distance(word(TWELVE), 0), 12);
            due("itself", x.distance(word(TWELVE), 1), 0);
            due("sitting, kitten", x.distance(word("sitting"), 2), 3);
            due("twelve others", x.distance(word("aaaaaaaaaaaa"), 3), 12);
            due("the last letter alone", x.distance(word("zzzzzzzzzzza"), 3), 1);
            x.seal();
        }
    }

    private static void distanceNoWord() {
        WordGraph x = open("", "cat", LAST);
        for (int round = 0; round < 2; round++) {
            for (long w : noWords()) {
                due("distance " + w, x.distance(w, 1), -1);
            }
            due("no word and no number", x.distance(-1L, 3), -1);
            x.seal();
        }
    }

    private static void distanceNoSuchNumber() {
        for (String[] words : new String[][] {{}, {""}, {"a", "b"}, fullList()}) {
            WordGraph x = open(words);
            for (int round = 0; round < 2; round++) {
                due("number -1", x.distance(0L, -1), -1);
                due("number behind the last", x.distance(0L, words.length), -1);
                due("number two behind the last", x.distance(0L, words.length + 1), -1);
                for (int k : FAR_OFF) {
                    due("number " + k, x.distance(0L, k), -1);
                }
                x.seal();
            }
        }
        due("the last of 48", open(fullList()).distance(0L, 47), 2);
    }

    private static void distanceBehindClear() {
        WordGraph x = open("a", "b");
        x.clear();
        due("to an old word", x.distance(0L, 0), -1);
        due("add", x.add(word("cat")), 0);
        due("to the new word", x.distance(0L, 0), 3);
        due("to an old word behind it", x.distance(0L, 1), -1);
    }

    // Promise 13: search

    private static final String[] BAT_TO_DOG = {"bat", "ca", "car", "cat", "catalogue", "cats", "dog"};

    private static void searchAtMostD() {
        WordGraph x = sealed(BAT_TO_DOG);
        due("0 errors", x.search(word("cat"), 0), 1);
        dueResults(x, 3, 0);
        due("1 error", x.search(word("cat"), 1), 5);
        dueResults(x, 3, 0, 0, 1, 1, 1, 2, 1, 5, 1);
        due("2 errors", x.search(word("cat"), 2), 5);
        dueResults(x, 3, 0, 0, 1, 1, 1, 2, 1, 5, 1);
        due("3 errors", x.search(word("cat"), 3), 6);
        dueResults(x, 3, 0, 0, 1, 1, 1, 2, 1, 5, 1, 6, 3);
        due("a word that is not in it, 0 errors", x.search(word("catt"), 0), 0);
        dueResults(x);
    }

    private static void searchEachDistanceApart() {
        WordGraph x = sealed("a", "ab", "abc", "abcd", "abcde");
        for (int d = 0; d <= 3; d++) {
            due("from a, " + d, x.search(word("a"), d), d + 1);
            due("from abcde, " + d, x.search(word("abcde"), d), d + 1);
            due("the farthest", x.result(d), 4 - d);
            due("its distance", x.far(d), d);
            due("from the empty word, " + d, x.search(0L, d), d);
        }
    }

    private static void searchByDistanceThenByNumber() {
        WordGraph x = sealed("aaa", "aab", "abb", "bbb", "bbbb");
        due("from bbb", x.search(word("bbb"), 3), 5);
        dueResults(x, 3, 0, 2, 1, 4, 1, 1, 2, 0, 3);
        due("from aab", x.search(word("aab"), 3), 5);
        dueResults(x, 1, 0, 0, 1, 2, 1, 3, 2, 4, 3);
    }

    private static void searchOfAllWords() {
        WordGraph x = sealed(fullList());
        due("among 48", x.search(word("za"), 2), 48);
        int[] want = new int[96];
        int at = 0;
        at = put(want, at, 26, 0);
        at = put(want, at, 0, 1);
        at = put(want, at, 25, 1);
        for (int k = 27; k < 48; k++) {
            at = put(want, at, k, 1);
        }
        for (int k = 1; k < 25; k++) {
            at = put(want, at, k, 2);
        }
        due("all of them", at, 96);
        dueResults(x, want);
    }

    private static int put(int[] row, int at, int number, int far) {
        row[at] = number;
        row[at + 1] = far;
        return at + 2;
    }

    private static void searchOfTheEmptyAndTheLongestWord() {
        WordGraph x = sealed("", "a", "bcd", "efgh", "zzzzzzzzz", LAST);
        due("the empty word, 0", x.search(0L, 0), 1);
        dueResults(x, 0, 0);
        due("the empty word, 3", x.search(0L, 3), 3);
        dueResults(x, 0, 0, 1, 1, 2, 3);
        due("twelve letters, 0", x.search(word(LAST), 0), 1);
        dueResults(x, 5, 0);
        due("twelve letters, 3", x.search(word(LAST), 3), 2);
        dueResults(x, 5, 0, 4, 3);
        due("twelve others", x.search(word(TWELVE), 3), 0);
        dueResults(x);
    }

    private static void searchWithoutWords() {
        WordGraph x = sealed();
        for (int d = 0; d <= 3; d++) {
            due("search 0, " + d, x.search(0L, d), 0);
            due("search z.., " + d, x.search(word(LAST), d), 0);
            dueResults(x);
        }
        due("d too large", x.search(0L, 4), -2);
        due("no word", x.search(1L, 0), -2);
    }

    private static void searchOpenComesFirst() {
        for (String[] words : new String[][] {{}, {""}, {"cat"}, fullList()}) {
            WordGraph x = open(words);
            for (int d = -1; d <= 4; d++) {
                due("a word, " + d, x.search(word("cat"), d), -1);
                due("no word, " + d, x.search(-1L, d), -1);
            }
            for (int d : FAR_OFF) {
                due("a word, " + d, x.search(0L, d), -1);
            }
            dueResults(x);
        }
    }

    private static void searchNoWord() {
        WordGraph x = sealed(BAT_TO_DOG);
        due("search", x.search(word("dogs"), 3), 2);
        for (long w : noWords()) {
            due("search " + w, x.search(w, 3), -2);
        }
        for (int d = -1; d <= 4; d++) {
            due("search of no word, " + d, x.search(1L, d), -2);
        }
        dueResults(x, 6, 1, 5, 3);
    }

    private static void searchDIsNot0To3() {
        WordGraph x = sealed(BAT_TO_DOG);
        due("search", x.search(word("dogs"), 3), 2);
        due("-1", x.search(word("cat"), -1), -2);
        due("4", x.search(word("cat"), 4), -2);
        due("5", x.search(word("cat"), 5), -2);
        for (int d : FAR_OFF) {
            due("search cat, " + d, x.search(word("cat"), d), -2);
        }
        dueResults(x, 6, 1, 5, 3);
        due("0", x.search(word("cat"), 0), 1);
        due("3", x.search(word("cat"), 3), 6);
    }

    // Promises 14 and 15: result and far

    private static void dueNone(WordGraph x, int i) {
        due("result " + i, x.result(i), -1);
        due("far " + i, x.far(i), -1);
    }

    private static void resultThereIsNone() {
        for (String[] words : new String[][] {{}, {""}, {"a", "b"}, {"a", "dcba", "dddd"}, fullList()}) {
            WordGraph x = sealed(words);
            int count = x.search(0L, 3);
            dueNone(x, -1);
            dueNone(x, count);
            dueNone(x, count + 1);
            for (int i : FAR_OFF) {
                dueNone(x, i);
            }
            if (count > 0) {
                due("the first has a number", x.result(0) >= 0 && x.far(0) >= 0, true);
                due("the last has a number", x.result(count - 1) >= 0 && x.far(count - 1) >= 0, true);
            }
        }
    }

    private static void resultWhenAllAreResults() {
        WordGraph x = sealed(fullList());
        due("search", x.search(0L, 3), 48);
        due("the first", x.result(0), 0);
        due("its distance", x.far(0), 1);
        due("the last of one letter", x.result(25), 25);
        due("its distance", x.far(25), 1);
        due("the first of two letters", x.result(26), 26);
        due("its distance", x.far(26), 2);
        due("the last", x.result(47), 47);
        due("its distance", x.far(47), 2);
        dueNone(x, 48);
    }

    private static void farFrom0To3() {
        WordGraph x = sealed("", "a", "aa", "aaa", "aaaa");
        due("search", x.search(0L, 3), 4);
        dueResults(x, 0, 0, 1, 1, 2, 2, 3, 3);
    }

    private static void resultsOfFewerBehindMore() {
        WordGraph x = sealed("aa", "aaa", "aaaa", "aaaaa");
        due("search", x.search(word("aaaa"), 3), 4);
        dueResults(x, 2, 0, 1, 1, 3, 1, 0, 2);
        due("fewer results", x.search(word("aaaaa"), 0), 1);
        dueResults(x, 3, 0);
        x.clear();
        dueResults(x);
    }

    private static void testPromises1To7() {
        sentence("promise 1, open", PromiseTest::newObjectIsOpen);
        sentence("promise 1, no words", PromiseTest::newObjectHasNoWords);
        sentence("promise 1, no results", PromiseTest::newObjectHasNoResults);
        sentence("promise 1, a new object is apart from another", PromiseTest::objectsAreApart);
        sentence("promise 2, adds a word", PromiseTest::addTakesAWord);
        sentence("promise 2, -1 if it is sealed", PromiseTest::addSealedComesFirst);
        sentence("promise 2, else -2 if no word", PromiseTest::addNoWordComesBeforeFullAndOrder);
        sentence("promise 2, else -3 if there are 48", PromiseTest::addFullComesBeforeOrder);
        sentence("promise 2, else -4 if not greater", PromiseTest::addNotGreaterThanTheLast);
        sentence("promise 2, if there is a word", PromiseTest::addNotGreaterIfThereIsAWord);
        sentence("promise 2, the greatest word", PromiseTest::addOfTheGreatestWord);
        sentence("promise 3, seals it", PromiseTest::sealSeals);
        sentence("promise 3, also without words", PromiseTest::sealWithoutWords);
        sentence("promise 3, false if it is sealed", PromiseTest::sealIsRefusedWhenSealed);
        sentence("promise 4, open again", PromiseTest::clearOpens);
        sentence("promise 4, no words", PromiseTest::clearTakesTheWords);
        sentence("promise 4, no results", PromiseTest::clearTakesTheResults);
        sentence("promise 4, as a new object", PromiseTest::clearedIsAsNew);
        sentence("promise 4, clear twice", PromiseTest::clearTwice);
        sentence("promise 5, the number of words", PromiseTest::sizeFromNoneToFull);
        sentence("promise 6, sealed or open", PromiseTest::wordSealedOrOpen);
        sentence("promise 6, -1 if there is none", PromiseTest::wordThereIsNone);
        sentence("promise 7, the number, also while open", PromiseTest::findAlsoWhileOpen);
        sentence("promise 7, -1 if not in the dictionary", PromiseTest::findNotInTheDictionary);
        sentence("promise 7, behind clear", PromiseTest::findBehindClear);
    }

    private static void testPromises8To11() {
        sentence("promise 8, 0 while it is open", PromiseTest::nodesWhileOpen);
        sentence("promise 8, the number of nodes", PromiseTest::nodesWhenSealed);
        sentence("promise 9, one letter longer", PromiseTest::stepToTheLongerBeginning);
        sentence("promise 9, -1 if there is none", PromiseTest::stepThereIsNone);
        sentence("promise 9, -1 if no such node", PromiseTest::stepNoSuchNode);
        sentence("promise 9, -1 if no such letter", PromiseTest::stepNoSuchLetter);
        sentence("promise 9, letters 1 and 26", PromiseTest::stepWithTheFirstAndTheLastLetter);
        sentence("promise 9, the last node", PromiseTest::stepFromTheLastNode);
        sentence("promise 9, -1 if it is open", PromiseTest::stepWhileOpen);
        sentence("promise 10, whether they are words", PromiseTest::endsIfTheBeginningsAreWords);
        sentence("promise 10, false if no such node", PromiseTest::endsNoSuchNode);
        sentence("promise 10, false if it is open", PromiseTest::endsWhileOpen);
        sentence("promise 11, how many endings", PromiseTest::endingsOfABeginning);
        sentence("promise 11, 0 of node 0 without words", PromiseTest::endingsOfNodeZeroWithoutWords);
        sentence("promise 11, 0 if no such node", PromiseTest::endingsNoSuchNode);
        sentence("promise 11, 0 if it is open", PromiseTest::endingsWhileOpen);
    }

    private static void testPromises12To15() {
        sentence("promise 12, it may be open", PromiseTest::distanceItMayBeOpen);
        sentence("promise 12, -1 if w is no word", PromiseTest::distanceNoWord);
        sentence("promise 12, -1 if no such number", PromiseTest::distanceNoSuchNumber);
        sentence("promise 12, behind clear", PromiseTest::distanceBehindClear);
        sentence("promise 13, at most d", PromiseTest::searchAtMostD);
        sentence("promise 13, d from 0 to 3", PromiseTest::searchEachDistanceApart);
        sentence("promise 13, by distance, then by number", PromiseTest::searchByDistanceThenByNumber);
        sentence("promise 13, all 48 words", PromiseTest::searchOfAllWords);
        sentence("promise 13, shortest and longest", PromiseTest::searchOfTheEmptyAndTheLongestWord);
        sentence("promise 13, without words", PromiseTest::searchWithoutWords);
        sentence("promise 13, -1 if it is open", PromiseTest::searchOpenComesFirst);
        sentence("promise 13, else -2 if w is no word", PromiseTest::searchNoWord);
        sentence("promise 13, else -2 if d is not 0 .. 3", PromiseTest::searchDIsNot0To3);
        sentence("promises 14 and 15, -1 if there is none", PromiseTest::resultThereIsNone);
        sentence("promise 14, result 47", PromiseTest::resultWhenAllAreResults);
        sentence("promise 15, 0 .. 3", PromiseTest::farFrom0To3);
        sentence("promises 14 and 15, fewer results", PromiseTest::resultsOfFewerBehindMore);
    }

    public static void main(String[] args) {
        testPromises1To7();
        testPromises8To11();
        testPromises12To15();
        finish();
    }
}
