/** The sentences of the document's "Terms", each with its boundary cases. */
public final class TermsTest extends Check {
    private static final String TWELVE = "abcdefghijkl";

    private static void lettersAre1To26() {
        for (int place = 0; place < 12; place++) {
            long before = word("m".repeat(place));
            for (int letter = 1; letter <= 31; letter++) {
                long w = before | letter(letter, place);
                due("letter " + letter + " at place " + place, new WordGraph().add(w), letter <= 26 ? 0 : -2);
            }
        }
    }

    private static void wordHasUpToTwelveLetters() {
        for (int length = 0; length <= 12; length++) {
            WordGraph x = new WordGraph();
            long w = word(TWELVE.substring(0, length));
            due("add of " + length + " letters", x.add(w), 0);
            due("word of " + length + " letters", x.word(0), w);
            due("find of " + length + " letters", x.find(w), 0);
            due("distance of " + length + " letters to itself", x.distance(w, 0), 0);
            due("seal", x.seal(), true);
            due("nodes of " + length + " letters", x.nodes(), length + 1);
            due("search of " + length + " letters", x.search(w, 0), 1);
        }
    }

    /** The bits of letters alone, one after the other, can tell where the first letter stands. */
    private static void letterHasItsFiveBits() {
        for (int bit = 0; bit < 64; bit++) {
            int want = bit >= 55 && bit <= 59 ? 0 : -2;
            due("add of bit " + bit, new WordGraph().add(1L << bit), want);
        }
        WordGraph x = new WordGraph();
        long w = 0L;
        for (int place = 0; place < 12; place++) {
            w |= (long) (place + 11) << (55 - 5 * place);
        }
        due("add", x.add(w), 0);
        due("seal", x.seal(), true);
        for (int place = 0; place < 12; place++) {
            for (int letter = 1; letter <= 26; letter++) {
                int want = letter == place + 11 ? place + 1 : -1;
                due("letter " + letter + " at place " + place, x.step(place, letter), want);
            }
        }
    }

    private static void otherBitsAreZero() {
        for (int bit = 60; bit < 64; bit++) {
            for (String letters : new String[] {"", "a", "z", "cat", TWELVE, "zzzzzzzzzzzz"}) {
                long w = word(letters);
                due("add " + letters, new WordGraph().add(w), 0);
                due("add " + letters + " with bit " + bit, new WordGraph().add(w | 1L << bit), -2);
            }
        }
        for (int length = 0; length < 11; length++) {
            for (int bit = 0; bit < 50 - 5 * length; bit++) {
                long w = word(TWELVE.substring(0, length)) | 1L << bit;
                due("add of " + length + " letters with bit " + bit, new WordGraph().add(w), -2);
            }
        }
    }

    private static void orderIsThatOfDictionary() {
        String[] inOrder = {
            "", "a", "aa", "aaaaaaaaaaa", "aaaaaaaaaaaa", "aaaaaaaaaaab", "aaaaaaaaaaaz", "aaaaaaaaaab",
            "ab", "abz", "az", "b", "ba", "m", "z", "zz", "zzzzzzzzzzz", "zzzzzzzzzzza", "zzzzzzzzzzzz"
        };
        WordGraph x = open(inOrder);
        for (int k = 0; k < inOrder.length; k++) {
            due("word " + k, x.word(k), word(inOrder[k]));
        }
        for (int k = 0; k < inOrder.length; k++) {
            for (int j = 0; j <= k; j++) {
                due(inOrder[j] + " behind " + inOrder[k], open(inOrder[k]).add(word(inOrder[j])), -4);
            }
        }
    }

    private static void emptyWordIsZero() {
        WordGraph x = new WordGraph();
        due("add 0", x.add(0L), 0);
        due("seal", x.seal(), true);
        due("word 0", x.word(0), 0L);
        due("find 0", x.find(0L), 0);
        due("ends 0", x.ends(0), true);
        due("endings 0", x.endings(0), 1);
        due("distance 0", x.distance(0L, 0), 0);
        due("search 0", x.search(0L, 0), 1);
    }

    private static void noWordIsNoneAnywhere() {
        for (long w : noWords()) {
            due("add " + w, new WordGraph().add(w), -2);
            WordGraph x = open("", "a", "cat", "zzzzzzzzzzzz");
            due("add behind words " + w, x.add(w), -2);
            due("find while open " + w, x.find(w), -1);
            due("distance while open " + w, x.distance(w, 0), -1);
            due("search while open " + w, x.search(w, 3), -1);
            due("seal", x.seal(), true);
            due("add when sealed " + w, x.add(w), -1);
            due("find " + w, x.find(w), -1);
            due("distance " + w, x.distance(w, 0), -1);
            due("search " + w, x.search(w, 3), -2);
        }
    }

    private static void atMost48Words() {
        for (String[] words : new String[][] {fullList(), longWords()}) {
            WordGraph x = new WordGraph();
            for (int k = 0; k < 47; k++) {
                due("add", x.add(word(words[k])), 0);
            }
            due("the 48th", x.add(word(words[47])), 0);
            due("the 49th", x.add(word("zzz")), -3);
            due("size", x.size(), 48);
        }
    }

    private static void numberedFromZeroInOrder() {
        String[] words = fullList();
        WordGraph x = open(words);
        for (int round = 0; round < 2; round++) {
            for (int k = 0; k < 48; k++) {
                due("word " + k, x.word(k), word(words[k]));
                due("find " + words[k], x.find(word(words[k])), k);
            }
            x.seal();
        }
    }

    private static void openAtFirstAndSealedBySeal() {
        WordGraph x = new WordGraph();
        due("search at first", x.search(0L, 0), -1);
        due("nodes at first", x.nodes(), 0);
        due("add at first", x.add(0L), 0);
        due("search behind add", x.search(0L, 0), -1);
        due("nodes behind add", x.nodes(), 0);
        due("seal", x.seal(), true);
        due("search when sealed", x.search(0L, 0), 1);
        due("nodes when sealed", x.nodes(), 1);
        due("add when sealed", x.add(word("a")), -1);
    }

    private static void stepPutsInALetterAnywhere() {
        for (String letters : new String[] {"", "a", "abcdef", "abcdefghijk"}) {
            WordGraph x = open(letters);
            for (int place = 0; place <= letters.length(); place++) {
                String longer = letters.substring(0, place) + "x" + letters.substring(place);
                due(longer + " to " + letters, x.distance(word(longer), 0), 1);
            }
        }
    }

    private static void stepTakesOutALetter() {
        for (String letters : new String[] {"a", "abcdef", TWELVE}) {
            WordGraph x = open(letters);
            for (int place = 0; place < letters.length(); place++) {
                String shorter = letters.substring(0, place) + letters.substring(place + 1);
                due(shorter + " to " + letters, x.distance(word(shorter), 0), 1);
            }
        }
    }

    private static void stepPutsAnotherLetter() {
        for (String letters : new String[] {"a", "abcdef", TWELVE}) {
            WordGraph x = open(letters);
            for (int place = 0; place < letters.length(); place++) {
                String other = letters.substring(0, place) + "x" + letters.substring(place + 1);
                due(other + " to " + letters, x.distance(word(other), 0), 1);
            }
        }
    }

    private static void dueDistance(String v, String w, int want) {
        due(v + " to " + w, open(w).distance(word(v), 0), want);
        due(w + " to " + v, open(v).distance(word(w), 0), want);
    }

    private static void distanceIsTheLeastNumber() {
        dueDistance("", "", 0);
        dueDistance(TWELVE, TWELVE, 0);
        dueDistance("sitting", "kitten", 3);
        dueDistance("ab", "ba", 2);
        dueDistance("abc", "cab", 2);
        dueDistance("aaa", "aaaaaaaaaaaa", 9);
        dueDistance("", "z", 1);
        dueDistance("", TWELVE, 12);
        dueDistance("m", TWELVE, 12);
        dueDistance("l", TWELVE, 11);
        dueDistance("mmmmmmmmmmmm", TWELVE, 12);
        dueDistance("lkjihgfedcba", TWELVE, 12);
        dueDistance("ababababab", "bababababa", 2);
        dueDistance("saturday", "sunday", 3);
    }

    /** Where twelve letters are moved by one place, the letter may be put in before one is taken out. */
    private static void wordsBetweenMayBeLonger() {
        dueDistance("bcdefghijkla", TWELVE, 2);
        dueDistance("labcdefghijk", TWELVE, 2);
        dueDistance("xabcdefghijk", TWELVE, 2);
        dueDistance("bcdefghijklx", TWELVE, 2);
        dueDistance("cdefghijklxy", TWELVE, 4);
    }

    private static void beginningsFromNoneToAllLetters() {
        for (int length = 0; length <= 12; length++) {
            due("one word of " + length, sealed(TWELVE.substring(0, length)).nodes(), length + 1);
        }
        due("two words without a shared letter", sealed("abc", "xyzxyz").nodes(), 9);
    }

    private static void emptyBeginningAloneWithoutWords() {
        WordGraph x = sealed();
        due("nodes", x.nodes(), 1);
        due("ends", x.ends(0), false);
        due("endings", x.endings(0), 0);
        for (int letter = 0; letter <= 27; letter++) {
            due("step " + letter, x.step(0, letter), -1);
        }
    }

    private static void endingsHaveTheEmptyRow() {
        WordGraph x = sealed("", "a", "ab");
        due("nodes", x.nodes(), 3);
        due("of the empty word", x.endings(0), 3);
        due("of a", x.endings(1), 2);
        due("of ab", x.endings(2), 1);
        WordGraph without = sealed("ab", "ac");
        due("of the empty beginning", without.endings(0), 2);
        due("of a", without.endings(1), 2);
        due("of ab and ac", without.endings(2), 1);
    }

    private static void sameEndingsSameNode() {
        WordGraph x = sealed("acx", "acy", "bcx", "bcy", "dddcx", "dddcy");
        // a 1, ac 2, acx 3; d 4, dd 5, and ddd as a
        due("nodes", x.nodes(), 6);
        due("a", x.step(0, 1), 1);
        due("b as a", x.step(0, 2), 1);
        due("d", x.step(0, 4), 4);
        due("dd", x.step(4, 4), 5);
        due("ddd as a", x.step(5, 4), 1);
        due("all words of two letters", sealed("aa", "ab", "ba", "bb").nodes(), 3);
        due("nothing of the first word but the end", sealed("ab", "b").nodes(), 3);
        due("a node of the first word's midst", sealed("abc", "bc").nodes(), 4);
        due("48 words", sealed(fullList()).nodes(), 3);
    }

    private static void otherEndingsOtherNode() {
        due("one is missing at the end", sealed("aa", "ab", "ba").nodes(), 4);
        due("one is missing at the start", sealed("ab", "ba", "bb").nodes(), 4);
        due("one more behind", sealed("ac", "bc", "bd").nodes(), 4);
        due("one more in front", sealed("ad", "bc", "bd").nodes(), 4);
        due("equal first and last", sealed("ab", "ac", "ad", "bb", "bd").nodes(), 4);
        due("equally many", sealed("ac", "ad", "bc", "be").nodes(), 4);
        due("a word and no word", sealed("a", "ac", "bc").nodes(), 4);
        due("endings one of which begins the other", sealed("abc", "bbcd").nodes(), 7);
        due("hardly anything shared", sealed(longWords()).nodes(), LONG_WORDS_NODES);
    }

    private static void nodesAreNumberedAsMet() {
        WordGraph x = sealed("abc", "abd", "b", "bz", "cbc", "cbd", "dab");
        // "" 0, a 1, ab 2, abc 3; b 4; c as a; d 5, da 6
        due("nodes", x.nodes(), 7);
        int[][] steps = {
            {0, 1, 1}, {1, 2, 2}, {2, 3, 3}, {2, 4, 3}, {0, 2, 4}, {4, 26, 3}, {0, 3, 1}, {0, 4, 5},
            {5, 1, 6}, {6, 2, 3}
        };
        for (int[] s : steps) {
            due("step " + s[0] + ", " + s[1], x.step(s[0], s[1]), s[2]);
        }
    }

    private static void shortestBeginningFirst() {
        WordGraph x = sealed(TWELVE, "zyxwvutsrqpo");
        for (int place = 0; place < 12; place++) {
            due("step in the first word", x.step(place, place + 1), place + 1);
        }
        due("the second word's first letter", x.step(0, 26), 13);
        for (int place = 1; place < 11; place++) {
            due("step in the second word", x.step(12 + place, 26 - place), 13 + place);
        }
        due("the second word's last letter", x.step(23, 15), 12);
    }

    private static void emptyBeginningHasNodeZero() {
        for (String[] words : new String[][] {{}, {""}, {"z"}, {"", "z"}, fullList(), longWords()}) {
            WordGraph x = sealed(words);
            due("endings of node 0", x.endings(0), words.length);
            due("ends of node 0", x.ends(0), words.length > 0 && words[0].isEmpty());
        }
    }

    private static void noResultsAtFirst() {
        dueResults(new WordGraph());
        dueResults(open("cat"));
        dueResults(sealed("cat"));
        dueResults(sealed());
        dueResults(sealed(fullList()));
    }

    private static void resultsOfTheLatestSearch() {
        WordGraph x = sealed("car", "cat", "dog");
        due("search", x.search(word("cat"), 3), 3);
        dueResults(x, 1, 0, 0, 1, 2, 3);
        due("a smaller search", x.search(word("dog"), 0), 1);
        dueResults(x, 2, 0);
        due("a search that finds nothing", x.search(word("zzzzz"), 1), 0);
        dueResults(x);
        due("a larger search", x.search(word("car"), 1), 2);
        dueResults(x, 0, 0, 1, 1);
    }

    private static void resultsStayBehindARefusedSearch() {
        WordGraph x = sealed("car", "cat", "dog");
        due("search", x.search(word("cat"), 1), 2);
        due("a distance too large", x.search(word("dog"), 4), -2);
        dueResults(x, 1, 0, 0, 1);
        due("a distance too small", x.search(word("dog"), -1), -2);
        dueResults(x, 1, 0, 0, 1);
        due("no word", x.search(1L, 1), -2);
        dueResults(x, 1, 0, 0, 1);
    }

    public static void main(String[] args) {
        sentence("letters are 1 .. 26", TermsTest::lettersAre1To26);
        sentence("a word has 0 to 12 letters", TermsTest::wordHasUpToTwelveLetters);
        sentence("letter i in the five bits from bit 55 - 5 * i on", TermsTest::letterHasItsFiveBits);
        sentence("0 in all other bits", TermsTest::otherBitsAreZero);
        sentence("the order of words is that of a dictionary", TermsTest::orderIsThatOfDictionary);
        sentence("the empty word is 0", TermsTest::emptyWordIsZero);
        sentence("a long not made so is no word", TermsTest::noWordIsNoneAnywhere);
        sentence("at most 48 words", TermsTest::atMost48Words);
        sentence("numbered from 0 in that order", TermsTest::numberedFromZeroInOrder);
        sentence("open at first, sealed by seal", TermsTest::openAtFirstAndSealedBySeal);
        sentence("a step puts in a letter anywhere", TermsTest::stepPutsInALetterAnywhere);
        sentence("a step takes out a letter", TermsTest::stepTakesOutALetter);
        sentence("a step puts another letter for one", TermsTest::stepPutsAnotherLetter);
        sentence("the distance is the least number of steps", TermsTest::distanceIsTheLeastNumber);
        sentence("words between may be longer", TermsTest::wordsBetweenMayBeLonger);
        sentence("beginnings, from 0 letters to all", TermsTest::beginningsFromNoneToAllLetters);
        sentence("without words the empty beginning alone", TermsTest::emptyBeginningAloneWithoutWords);
        sentence("endings, the empty row too", TermsTest::endingsHaveTheEmptyRow);
        sentence("the same node if the same endings", TermsTest::sameEndingsSameNode);
        sentence("the same node only if the same endings", TermsTest::otherEndingsOtherNode);
        sentence("nodes are numbered as first met", TermsTest::nodesAreNumberedAsMet);
        sentence("from the shortest beginning to the longest", TermsTest::shortestBeginningFirst);
        sentence("the empty beginning has node 0", TermsTest::emptyBeginningHasNodeZero);
        sentence("at first there are no results", TermsTest::noResultsAtFirst);
        sentence("results of the latest search", TermsTest::resultsOfTheLatestSearch);
        sentence("results stay behind a refused search", TermsTest::resultsStayBehindARefusedSearch);
        finish();
    }
}
