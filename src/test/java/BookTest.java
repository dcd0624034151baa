/** Promises 5 to 10: book, phrase, close, groupOf, sound, distance. */
public final class BookTest {
    public static void main(String[] args) {
        books();
        phrases();
        phraseRefusals();
        phrasesFull();
        closing();
        groups();
        sounds();
        distances();
        Due.end();
    }

    private static void books() {
        TelegraphHouse x = new TelegraphHouse();
        Due.due("start below", x.book(-1, 1), TelegraphHouse.OUTSIDE);
        Due.due("start above", x.book(5001, 1), TelegraphHouse.OUTSIDE);
        Due.due("step below", x.book(0, 0), TelegraphHouse.OUTSIDE);
        Due.due("step above", x.book(0, 10), TelegraphHouse.OUTSIDE);
        Due.due("none was made", x.count(0), 0);
        Due.due("least", x.book(0, 1), 0);
        Due.due("most", x.book(5000, 9), 1);
        Due.due("third", x.book(7, 7), 2);
        Due.due("outside ahead of full", x.book(0, 0), TelegraphHouse.OUTSIDE);
        Due.due("full", x.book(0, 1), TelegraphHouse.FULL);
        Due.due("three", x.count(0), 3);
    }

    private static void phrases() {
        TelegraphHouse x = new TelegraphHouse();
        x.book(0, 1);
        x.book(0, 1);
        Due.due("first", Due.phrase(x, 0, "buy"), 1);
        Due.due("the tape is empty then", x.count(4), 0);
        Due.due("four words", Due.phrase(x, 0, " buy  at the best "), 2);
        Due.due("a beginning of another", Due.phrase(x, 0, "buy at the"), 3);
        Due.due("other words in one", Due.phrase(x, 0, "buyat the"), 4);
        Due.due("the same in another book", Due.phrase(x, 1, "buy"), 1);
    }

    private static void phraseRefusals() {
        TelegraphHouse x = new TelegraphHouse();
        x.book(0, 1);
        Due.phrase(x, 0, "sell now");
        Due.due("unknown below", x.phrase(-1), TelegraphHouse.UNKNOWN);
        Due.due("unknown above, ahead of a fault", x.phrase(1), TelegraphHouse.UNKNOWN);
        Due.due("fault of an empty tape", x.phrase(0), -100);
        refused(x, "ab?", -102);
        refused(x, "a b c d e", TelegraphHouse.OUTSIDE);
        refused(x, "a 1", TelegraphHouse.OUTSIDE);
        refused(x, "0", TelegraphHouse.OUTSIDE);
        refused(x, "  sell   now ", TelegraphHouse.STATE);
        x.close(0);
        refused(x, "other", TelegraphHouse.STATE);
        refused(x, "a 1", TelegraphHouse.OUTSIDE);
        refused(x, "a1", -101);
        Due.due("still one", x.groupOf(0, 1), TelegraphHouse.UNKNOWN);
    }

    private static void refused(TelegraphHouse x, String text, int want) {
        int n = Due.feed(x, text);
        Due.due("phrase '" + text + "'", x.phrase(0), want);
        Due.due("its tape stays", x.cut(0), n);
    }

    private static void phrasesFull() {
        TelegraphHouse x = new TelegraphHouse();
        x.book(5000, 9);
        for (int i = 0; i < 30; i++) {
            Due.due("phrase " + i, Due.phrase(x, 0, "w" + (char) ('a' + i % 26) + (char) ('a' + i / 26)), i + 1);
        }
        refused(x, "more", TelegraphHouse.FULL);
        refused(x, "waa", TelegraphHouse.STATE);
        Due.due("close", x.close(0), 30);
        Due.due("the last group", x.groupOf(0, 29), x.sound(5261));
        Due.due("no more", x.groupOf(0, 30), TelegraphHouse.UNKNOWN);
    }

    private static void closing() {
        TelegraphHouse x = new TelegraphHouse();
        x.book(0, 1);
        x.book(0, 1);
        Due.phrase(x, 1, "a");
        Due.due("below", x.close(-1), TelegraphHouse.UNKNOWN);
        Due.due("above", x.close(2), TelegraphHouse.UNKNOWN);
        Due.due("none", x.close(0), 0);
        Due.due("one", x.close(1), 1);
        Due.due("it is", x.close(0), TelegraphHouse.STATE);
    }

    private static void groups() {
        TelegraphHouse x = new TelegraphHouse();
        x.book(100, 3);
        Due.phrase(x, 0, "a");
        Due.phrase(x, 0, "b");
        Due.due("not closed", x.groupOf(0, 0), TelegraphHouse.STATE);
        Due.due("unknown ahead of that", x.groupOf(0, 2), TelegraphHouse.UNKNOWN);
        Due.due("unknown below", x.groupOf(0, -1), TelegraphHouse.UNKNOWN);
        Due.due("unknown book", x.groupOf(1, 0), TelegraphHouse.UNKNOWN);
        x.close(0);
        Due.due("group 0", x.groupOf(0, 0), 2832);
        Due.due("group 1", x.groupOf(0, 1), x.sound(103));
        Due.due("no group 2", x.groupOf(0, 2), TelegraphHouse.UNKNOWN);
    }

    private static void sounds() {
        TelegraphHouse x = new TelegraphHouse();
        Due.due("below", x.sound(-1), TelegraphHouse.OUTSIDE);
        Due.due("above", x.sound(10000), TelegraphHouse.OUTSIDE);
        Due.due("the first one", x.sound(0), 0);
        int[] wanted = soundByRule();
        TelegraphHouse y = new TelegraphHouse();
        for (int n = 9999; n >= 0; n--) {
            // An object is used for 512 calls at most.
            if (n % 500 == 0) {
                y = new TelegraphHouse();
            }
            Due.due("sound " + n, y.sound(n), wanted[n]);
        }
        for (int n = 0; n < 10000; n += 97) {
            Due.due("sound again " + n, x.sound(n), wanted[n]);
        }
    }

    /** The first 10000 by the rule as it is written, of all groups one after another. */
    private static int[] soundByRule() {
        int[] found = new int[10000];
        int known = 0;
        for (int g = 0; known < 10000; g++) {
            int[] l = {g / 456976, g / 17576 % 26, g / 676 % 26, g / 26 % 26, g % 26};
            boolean sound = (l[0] + 3 * l[1] + 7 * l[2] + 15 * l[3] + 5 * l[4]) % 26 == 0 && l[0] <= 22;
            for (int i = 0; i < 4; i++) {
                sound &= Math.abs(l[i] - l[i + 1]) != 13;
            }
            if (sound) {
                found[known++] = g;
            }
        }
        return found;
    }

    private static void distances() {
        TelegraphHouse x = new TelegraphHouse();
        x.book(0, 1);
        x.book(100, 3);
        x.book(4000, 9);
        Due.due("not closed", x.distance(0), TelegraphHouse.STATE);
        Due.due("unknown", x.distance(3), TelegraphHouse.UNKNOWN);
        Due.due("unknown below", x.distance(-1), TelegraphHouse.UNKNOWN);
        x.close(0);
        Due.due("of none", x.distance(0), TelegraphHouse.NONE);
        Due.phrase(x, 1, "a");
        x.close(1);
        Due.due("of one", x.distance(1), TelegraphHouse.NONE);
        for (int i = 0; i < 30; i++) {
            Due.phrase(x, 2, "" + (char) ('a' + i % 26) + (char) ('a' + i / 26));
        }
        x.close(2);
        Due.due("of thirty", x.distance(2), leastByRule(x, 2, 30));
        TelegraphHouse two = Due.withBook(0, 9, "a", "b");
        Due.due("of two", two.distance(0), leastByRule(two, 0, 2));
        TelegraphHouse wide = Due.withBook(20, 9, "a", "b");
        Due.due("of two over a letter more", wide.distance(0), leastByRule(wide, 0, 2));
    }

    private static int leastByRule(TelegraphHouse x, int book, int n) {
        String[] groups = new String[n];
        for (int i = 0; i < n; i++) {
            groups[i] = String.format("%1$7s", Integer.toString(x.groupOf(book, i), 26)).replace(' ', '0');
        }
        int least = 5;
        for (int i = 0; i < n; i++) {
            for (int j = i + 1; j < n; j++) {
                int unlike = 0;
                for (int k = 0; k < 7; k++) {
                    unlike += groups[i].charAt(k) == groups[j].charAt(k) ? 0 : 1;
                }
                least = Math.min(least, unlike);
            }
        }
        return least;
    }
}
