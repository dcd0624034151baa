/** Part 2, SOUND GROUPS and BOOKS, and promises 5 to 10: each sentence with a bound has its test. */
public final class BookEdgeTest {
    private static final int UNKNOWN = TelegraphHouse.UNKNOWN;
    private static final int OUTSIDE = TelegraphHouse.OUTSIDE;
    private static final int STATE = TelegraphHouse.STATE;
    private static final int FULL = TelegraphHouse.FULL;
    private static final int NONE = TelegraphHouse.NONE;
    private static final int LEAST = Integer.MIN_VALUE;
    private static final int MOST = Integer.MAX_VALUE;

    private static final int[] SOUND = soundByRule();

    public static void main(String[] args) {
        startBounds();
        stepBounds();
        threeBooks();
        thirtyPhrases();
        thirtyPhrasesOfFourWords();
        oneToFourWords();
        noNumberInAPhrase();
        phraseFaults();
        phraseEmptiesTheTape();
        closedBook();
        samePhrase();
        noSuchBook();
        closing();
        groupsOfPhrases();
        groupOfBounds();
        soundBounds();
        soundSums();
        soundNeighbours();
        soundInOrder();
        distanceOfFew();
        distanceBounds();
        distanceOfMany();
        Due.end();
    }

    /** The first 10000 by the rule as it is written, of all groups one after another. */
    private static int[] soundByRule() {
        int[] found = new int[10000];
        int known = 0;
        for (int g = 0; known < found.length; g++) {
            int[] l = letters(g);
            boolean sound = (l[0] + 3 * l[1] + 7 * l[2] + 15 * l[3] + 5 * l[4]) % 26 == 0 && l[0] <= 22;
            for (int i = 0; i < 4; i++) {
                sound &= l[i] - l[i + 1] != 13 && l[i + 1] - l[i] != 13;
            }
            if (sound) {
                found[known++] = g;
            }
        }
        return found;
    }

    private static int[] letters(int group) {
        return new int[] {group / 456976, group / 17576 % 26, group / 676 % 26, group / 26 % 26, group % 26};
    }

    /** Phrase k of a row in which none is like another. */
    private static String name(int k) {
        return "w" + (char) ('a' + k % 26) + (char) ('a' + k / 26);
    }

    private static TelegraphHouse withPhrases(int start, int step, int n) {
        TelegraphHouse x = new TelegraphHouse();
        x.book(start, step);
        for (int k = 0; k < n; k++) {
            Due.phrase(x, 0, name(k));
        }
        return x;
    }

    private static void startBounds() {
        Due.sentence("BOOKS 0 .. 2 have a START (0 .. 5000)");
        for (int start : new int[] {LEAST, -5000, -1, 5001, 10000, MOST}) {
            TelegraphHouse x = new TelegraphHouse();
            Due.due("book(" + start + ", 1)", x.book(start, 1), OUTSIDE);
            Due.due("no book", x.count(0), 0);
            Due.due("the next one is the first", x.book(0, 1), 0);
        }
        for (int start : new int[] {0, 1, 4999, 5000}) {
            TelegraphHouse x = withPhrases(start, 1, 1);
            x.close(0);
            Due.due("group of START " + start, x.groupOf(0, 0), SOUND[start]);
        }
    }

    private static void stepBounds() {
        Due.sentence("a STEP (1 .. 9)");
        for (int step : new int[] {LEAST, -1, 0, 10, MOST}) {
            TelegraphHouse x = new TelegraphHouse();
            Due.due("book(0, " + step + ")", x.book(0, step), OUTSIDE);
            Due.due("no book", x.count(0), 0);
        }
        for (int step = 1; step <= 9; step++) {
            TelegraphHouse x = withPhrases(0, step, 2);
            x.close(0);
            Due.due("group 1 of STEP " + step, x.groupOf(0, 1), SOUND[step]);
        }
        TelegraphHouse x = new TelegraphHouse();
        Due.due("both outside", x.book(5001, 10), OUTSIDE);
    }

    private static void threeBooks() {
        Due.sentence("A BOOK: its number. OUTSIDE; FULL: 3.");
        TelegraphHouse x = new TelegraphHouse();
        for (int b = 0; b < 3; b++) {
            Due.due("no book " + b + " yet", x.close(b), UNKNOWN);
            Due.due("book " + b, x.book(0, 1), b);
            Due.due("books", x.count(0), b + 1);
        }
        Due.due("a fourth one", x.book(0, 1), FULL);
        Due.due("a fourth one that is outside", x.book(-1, 1), OUTSIDE);
        Due.due("three", x.count(0), 3);
        Due.due("no book 3", x.close(3), UNKNOWN);
        Due.due("the last one is there", x.close(2), 0);
    }

    private static void thirtyPhrases() {
        Due.sentence("PHRASES, 30 at most");
        TelegraphHouse x = new TelegraphHouse();
        x.book(0, 1);
        x.book(0, 1);
        for (int k = 0; k < 30; k++) {
            Due.due("phrase " + k, Due.phrase(x, 0, name(k)), k + 1);
        }
        Due.due("one more", Due.phrase(x, 0, "more"), FULL);
        Due.due("the tape stays", x.count(4), 4);
        Due.due("another book takes it", x.phrase(1), 1);
        Due.due("thirty", x.close(0), 30);
        Due.due("the thirtieth", x.groupOf(0, 29), SOUND[29]);
        Due.due("no other", x.groupOf(0, 30), UNKNOWN);
    }

    private static void thirtyPhrasesOfFourWords() {
        Due.sentence("PHRASES, 30 at most, of 1 to 4 WORDS");
        TelegraphHouse x = new TelegraphHouse();
        x.book(7, 3);
        for (int k = 0; k < 30; k++) {
            Due.due("phrase " + k, Due.phrase(x, 0, "four words " + name(k) + " more"), k + 1);
        }
        Due.due("one more", Due.phrase(x, 0, "four words of more"), FULL);
        x.cut(0);
        x.close(0);
        for (int k : new int[] {0, 1, 28, 29}) {
            int m = Due.message(x, "four words " + name(k) + " more");
            Due.due("message of phrase " + k, x.condense(m, 0), 1);
            Due.due("its phrase", x.part(m, 0, 2), k);
            Due.due("its group", x.group(m, 0), SOUND[7 + 3 * k]);
            Due.due("expands", x.expands(m), 1);
            Due.setGroup(x, m, 0, SOUND[7 + 3 * 30]);
            Due.due("the group that phrase 30 would have", x.expands(m), 2);
        }
    }

    private static void oneToFourWords() {
        Due.sentence("OUTSIDE: its TOKENS are not 1 to 4 WORDS");
        for (int n = 1; n <= 20; n++) {
            TelegraphHouse x = new TelegraphHouse();
            x.book(0, 1);
            String text = "ab ".repeat(n);
            Due.due(n + " words", Due.phrase(x, 0, text), n <= 4 ? 1 : OUTSIDE);
            Due.due("bytes then", x.count(4), n <= 4 ? 0 : 3 * n);
            Due.due("phrases then", x.close(0), n <= 4 ? 1 : 0);
        }
        TelegraphHouse x = Due.withBook(0, 1, "abcdefghijkl bcdefghijklm cdefghijklmn defghijklmno");
        Due.message(x, "abcdefghijkl bcdefghijklm cdefghijklmn defghijklmno");
        Due.due("the longest phrase is one group", x.condense(0, 0), 1);
    }

    private static void noNumberInAPhrase() {
        Due.sentence("PHRASES, 30 at most, of 1 to 4 WORDS");
        for (String text : new String[] {"0", "7 a", "a 7", "a b c 999999999", "a 1 b", "1 2 3 4 5"}) {
            TelegraphHouse x = new TelegraphHouse();
            x.book(0, 1);
            Due.due("phrase '" + text + "'", Due.phrase(x, 0, text), OUTSIDE);
            Due.due("the tape stays", x.count(4), text.length());
            Due.due("no phrase", x.close(0), 0);
        }
        TelegraphHouse x = new TelegraphHouse();
        x.book(0, 1);
        Due.message(x, "a 1 2 3 4 5");
        Due.due("numbers of a message that was read ahead of it", Due.phrase(x, 0, "b"), 1);
    }

    private static void phraseFaults() {
        Due.sentence("-100 less the place of ITS FAULT");
        String[] texts = {"", "   ", "!", "ab!", "a1", "1a", "00", "abcdefghijklm", "1234567890", "a ".repeat(21)};
        int[] places = {0, 3, 0, 2, 1, 1, 1, 12, 9, 40};
        for (int i = 0; i < texts.length; i++) {
            TelegraphHouse x = new TelegraphHouse();
            x.book(0, 1);
            Due.due("phrase '" + texts[i] + "'", Due.phrase(x, 0, texts[i]), -100 - places[i]);
            Due.due("the tape stays", x.count(4), texts[i].length());
            Due.due("no phrase", x.close(0), 0);
        }
    }

    private static void phraseEmptiesTheTape() {
        Due.sentence("THE TAPE is a PHRASE more of a BOOK, and empty then: how many it has.");
        TelegraphHouse x = new TelegraphHouse();
        x.book(0, 1);
        x.book(0, 1);
        Due.due("first of book 0", Due.phrase(x, 0, "up"), 1);
        Due.due("empty", x.count(4), 0);
        Due.due("no token now", x.phrase(0), -100);
        Due.due("first of book 1", Due.phrase(x, 1, "down"), 1);
        Due.due("second of book 0", Due.phrase(x, 0, "down"), 2);
    }

    private static void closedBook() {
        Due.sentence("STATE: the BOOK is closed");
        TelegraphHouse x = withPhrases(0, 1, 2);
        x.close(0);
        Due.due("a new phrase", Due.phrase(x, 0, "other"), STATE);
        Due.due("the tape stays", x.cut(0), 5);
        Due.due("one that it has", Due.phrase(x, 0, name(0)), STATE);
        Due.due("no third", x.groupOf(0, 2), UNKNOWN);
        TelegraphHouse y = withPhrases(0, 1, 30);
        y.close(0);
        Due.due("closed, ahead of full", Due.phrase(y, 0, "other"), STATE);
    }

    private static void samePhrase() {
        Due.sentence("or has that PHRASE");
        TelegraphHouse x = withPhrases(0, 1, 28);
        Due.due("two words", Due.phrase(x, 0, "sell now"), 29);
        Due.due("the same", Due.phrase(x, 0, "sell now"), STATE);
        Due.due("the tape stays", x.cut(0), 8);
        Due.due("the same with other blanks", Due.phrase(x, 0, "  sell   now "), STATE);
        x.cut(0);
        Due.due("the first one", Due.phrase(x, 0, name(0)), STATE);
        x.cut(0);
        Due.due("turned round is another one", Due.phrase(x, 0, "now sell"), 30);
        Due.due("the last one, ahead of full", Due.phrase(x, 0, "now sell"), STATE);
        TelegraphHouse y = new TelegraphHouse();
        y.book(0, 1);
        String[] others = {"a b", "a", "b", "ab", "a b c", "a b c d", "b a", "a a", "a bb", "aa b"};
        for (int i = 0; i < others.length; i++) {
            Due.due("another one: " + others[i], Due.phrase(y, 0, others[i]), i + 1);
        }
    }

    private static void noSuchBook() {
        Due.sentence("UNKNOWN (there is no such BOOK");
        for (int b : new int[] {LEAST, -9, -1, 2, 3, MOST}) {
            TelegraphHouse x = withPhrases(0, 1, 1);
            x.book(0, 1);
            Due.message(x, "a");
            Due.feed(x, "abc");
            Due.due("phrase(" + b + ")", x.phrase(b), UNKNOWN);
            Due.due("close(" + b + ")", x.close(b), UNKNOWN);
            Due.due("groupOf(" + b + ", 0)", x.groupOf(b, 0), UNKNOWN);
            Due.due("distance(" + b + ")", x.distance(b), UNKNOWN);
            Due.due("condense(0, " + b + ")", x.condense(0, b), UNKNOWN);
            Due.due("the tape stays", x.count(4), 3);
        }
    }

    private static void closing() {
        Due.sentence("A BOOK is closed: how many PHRASES it has. UNKNOWN; STATE: it is.");
        for (int n : new int[] {0, 1, 29, 30}) {
            TelegraphHouse x = withPhrases(0, 1, n);
            x.book(0, 1);
            Due.due("close of " + n, x.close(0), n);
            Due.due("close again", x.close(0), STATE);
            Due.due("the other book is not closed", Due.phrase(x, 1, "a"), 1);
            Due.due("close it", x.close(1), 1);
        }
    }

    private static void groupsOfPhrases() {
        Due.sentence("the GROUP of PHRASE k is the SOUND one START + k STEP");
        int[][] books = {{0, 1}, {0, 9}, {5000, 1}, {5000, 9}, {4999, 8}, {1234, 5}};
        for (int[] b : books) {
            TelegraphHouse x = withPhrases(b[0], b[1], 30);
            x.close(0);
            for (int k = 0; k < 30; k++) {
                Due.due("START " + b[0] + ", STEP " + b[1] + ", phrase " + k, x.groupOf(0, k), SOUND[b[0] + k * b[1]]);
            }
        }
    }

    private static void groupOfBounds() {
        Due.sentence("The GROUP of PHRASE k. UNKNOWN: also the PHRASE; STATE: the BOOK is not closed.");
        TelegraphHouse x = withPhrases(10, 2, 3);
        for (int k : new int[] {LEAST, -1, 3, 4, 30, MOST}) {
            Due.due("open, phrase " + k, x.groupOf(0, k), UNKNOWN);
        }
        for (int k = 0; k < 3; k++) {
            Due.due("open, phrase " + k, x.groupOf(0, k), STATE);
        }
        x.close(0);
        for (int k : new int[] {LEAST, -1, 3, 4, 30, MOST}) {
            Due.due("closed, phrase " + k, x.groupOf(0, k), UNKNOWN);
        }
        for (int k = 0; k < 3; k++) {
            Due.due("closed, phrase " + k, x.groupOf(0, k), SOUND[10 + 2 * k]);
        }
        TelegraphHouse empty = Due.withBook(0, 1);
        Due.due("of none", empty.groupOf(0, 0), UNKNOWN);
    }

    private static void soundBounds() {
        Due.sentence("SOUND GROUP n (0 .. 9999). OUTSIDE.");
        TelegraphHouse x = new TelegraphHouse();
        for (int n : new int[] {LEAST, -1, 10000, 10001, MOST}) {
            Due.due("sound(" + n + ")", x.sound(n), OUTSIDE);
        }
        for (int n : new int[] {9999, 0, 1, 9998, 5000}) {
            Due.due("sound(" + n + ")", x.sound(n), SOUND[n]);
        }
    }

    private static void soundSums() {
        Due.sentence("its letters times 1, 3, 7, 15, 5 (the first one times 1), added, are 0 modulo 26");
        // 15 d + 5 e: with d = 1 it is 15 + 115 = 130 for e = 23, with d = 2 30 + 100 = 130 for e = 20.
        TelegraphHouse x = new TelegraphHouse();
        Due.due("the first", x.sound(0), 0);
        Due.due("the second", x.sound(1), Due.group(0, 0, 0, 1, 23));
        Due.due("the third", x.sound(2), Due.group(0, 0, 0, 2, 20));
    }

    /** For each two places: the first group whose sum is right and that has just these two 13 apart. */
    private static void soundNeighbours() {
        Due.sentence("no two neighbours are 13 apart");
        TelegraphHouse x = new TelegraphHouse();
        for (int pair = 0; pair < 4; pair++) {
            int unsound = firstWithClash(pair);
            int n = 0;
            while (SOUND[n] < unsound) {
                n++;
            }
            Due.due("the one ahead of " + unsound, x.sound(n - 1), SOUND[n - 1]);
            Due.due("the one behind " + unsound, x.sound(n) > unsound);
        }
    }

    private static int firstWithClash(int pair) {
        for (int g = 0; g < SOUND[9999]; g++) {
            int[] l = letters(g);
            boolean found = (l[0] + 3 * l[1] + 7 * l[2] + 15 * l[3] + 5 * l[4]) % 26 == 0;
            for (int i = 0; i < 4; i++) {
                found &= (Math.abs(l[i] - l[i + 1]) == 13) == (i == pair);
            }
            if (found) {
                return g;
            }
        }
        throw new IllegalStateException("none has places " + pair + " and " + (pair + 1) + " 13 apart");
    }

    private static void soundInOrder() {
        Due.sentence("SOUND GROUPS are 0, 1, .. by their numbers.");
        for (int from = 0; from < 10000; from += 500) {
            TelegraphHouse x = new TelegraphHouse();
            for (int n = from; n < from + 500; n++) {
                Due.due("sound(" + n + ")", x.sound(n), SOUND[n]);
            }
        }
    }

    private static void distanceOfFew() {
        Due.sentence("NONE: it has none, or one.");
        for (int n = 0; n <= 2; n++) {
            TelegraphHouse x = withPhrases(3, 1, n);
            x.close(0);
            Due.due("distance of " + n, x.distance(0), n < 2 ? NONE : leastUnlike(3, 1, n));
        }
    }

    private static void distanceBounds() {
        Due.sentence("of two PHRASES of a closed BOOK are unlike; NONE: it has none, or one. UNKNOWN; STATE.");
        for (int n = 0; n <= 2; n++) {
            TelegraphHouse x = withPhrases(0, 1, n);
            Due.due("open, of " + n, x.distance(0), STATE);
            Due.due("no book 1", x.distance(1), UNKNOWN);
            Due.due("no book -1", x.distance(-1), UNKNOWN);
        }
    }

    private static int leastUnlike(int start, int step, int n) {
        int least = 5;
        for (int i = 0; i < n; i++) {
            for (int j = i + 1; j < n; j++) {
                int[] p = letters(SOUND[start + i * step]);
                int[] q = letters(SOUND[start + j * step]);
                int unlike = 0;
                for (int k = 0; k < 5; k++) {
                    unlike += p[k] == q[k] ? 0 : 1;
                }
                least = Math.min(least, unlike);
            }
        }
        return least;
    }

    /** Books of two phrases are looked for whose groups are unlike in 2, 3 and 4 places. */
    private static void distanceOfMany() {
        Due.sentence("In how few places GROUPS of two PHRASES of a closed BOOK are unlike");
        boolean[] seen = new boolean[6];
        for (int start = 0; start <= 5000; start++) {
            for (int step = 1; step <= 9; step++) {
                int due = leastUnlike(start, step, 2);
                if (!seen[due]) {
                    seen[due] = true;
                    TelegraphHouse x = withPhrases(start, step, 2);
                    x.close(0);
                    Due.due("distance of START " + start + ", STEP " + step, x.distance(0), due);
                }
            }
        }
        Due.due("2, 3 and 4 were found", seen[2] && seen[3] && seen[4]);
        // The two that are nearest may be any two of the thirty, the first and the last ones too.
        for (int start = 0; start <= 5000; start += 250) {
            for (int n : new int[] {3, 5, 30}) {
                TelegraphHouse x = withPhrases(start, 9, n);
                x.close(0);
                Due.due("distance of " + n + " from " + start, x.distance(0), leastUnlike(start, 9, n));
            }
        }
    }
}
