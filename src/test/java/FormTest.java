/** Promises 11 to 16: about, condense, part, group, expands, best. */
public final class FormTest {
    public static void main(String[] args) {
        abouts();
        counts();
        condenseRefusals();
        spelling();
        numbers();
        fewestGroups();
        fewestParts();
        moreTokensFirst();
        phraseAheadOfSpelled();
        parts();
        groups();
        anew();
        expansion();
        failures();
        bests();
        longestForms();
        Due.end();
    }

    private static void abouts() {
        TelegraphHouse x = Due.withBook(0, 1, "a b");
        Due.message(x, "a b c 7");
        int[] plain = {4, 4, 0, TelegraphHouse.NONE, 0, 0};
        int[] formed = {4, 3, 3, 0, 3, 0};
        int[] guarded = {4, 3, 3, 0, 3, 1};
        abouts(x, "plain", plain);
        x.condense(0, 0);
        abouts(x, "formed", formed);
        x.guard(0);
        abouts(x, "guarded", guarded);
        x.condense(0, 0);
        abouts(x, "formed anew", formed);
        Due.due("outside below", x.about(0, -1), TelegraphHouse.OUTSIDE);
        Due.due("outside above", x.about(0, 6), TelegraphHouse.OUTSIDE);
        Due.due("unknown ahead of outside", x.about(1, 6), TelegraphHouse.UNKNOWN);
        Due.due("unknown below", x.about(-1, 0), TelegraphHouse.UNKNOWN);
    }

    private static void abouts(TelegraphHouse x, String when, int[] want) {
        for (int what = 0; what < want.length; what++) {
            Due.due(when + " about(0, " + what + ")", x.about(0, what), want[what]);
        }
    }

    private static void counts() {
        TelegraphHouse x = new TelegraphHouse();
        Due.message(x, "abcdefghij");
        Due.message(x, "abcdefghijk");
        Due.message(x, "12345");
        Due.message(x, "123456");
        Due.message(x, "a 0 abcdefghijkl 123456789");
        int[] want = {1, 2, 1, 2, 6};
        for (int m = 0; m < want.length; m++) {
            Due.due("count of message " + m, x.about(m, 1), want[m]);
        }
        TelegraphHouse y = Due.withBook(0, 1, "one two three");
        Due.message(y, "one two three");
        y.condense(0, 0);
        Due.due("one group counts one", y.about(0, 1), 1);
    }

    private static void condenseRefusals() {
        TelegraphHouse x = new TelegraphHouse();
        x.book(0, 1);
        x.station();
        x.station();
        x.line(0, 1, 5, 0, 0);
        Due.message(x, "a");
        Due.due("unknown message", x.condense(1, 0), TelegraphHouse.UNKNOWN);
        Due.due("unknown message below", x.condense(-1, 0), TelegraphHouse.UNKNOWN);
        Due.due("unknown book", x.condense(0, 1), TelegraphHouse.UNKNOWN);
        Due.due("unknown book below", x.condense(0, -9), TelegraphHouse.UNKNOWN);
        Due.due("not closed", x.condense(0, 0), TelegraphHouse.STATE);
        x.close(0);
        x.send(0, 0, 1, 0);
        Due.due("was sent", x.condense(0, 0), TelegraphHouse.STATE);
        x.step(10);
        Due.due("has come", x.condense(0, 0), TelegraphHouse.STATE);
        Due.due("no form", x.about(0, 2), 0);
    }

    private static void spelling() {
        TelegraphHouse x = Due.withBook(0, 1);
        String letters = "zbcdefghijkl";
        for (int n = 1; n <= 12; n++) {
            int m = Due.message(x, letters.substring(0, n));
            Due.due("groups of " + n, x.condense(m, 0), 1 + n / 4);
            Due.due("one part", x.about(m, 4), 1);
            Due.due("expands", x.expands(m), 1);
        }
        Due.due("1 letter", x.group(0, 0), Due.group(23, 1, 25, 0, 0));
        Due.due("3 letters", x.group(2, 0), Due.group(23, 3, 25, 1, 2));
        Due.due("4 letters", x.group(3, 0), Due.group(23, 4, 25, 1, 2));
        Due.due("4 letters, then", x.group(3, 1), Due.group(23, 3, 0, 0, 0));
        Due.due("8 letters, last", x.group(7, 2), Due.group(23, 7, 0, 0, 0));
        Due.due("11 letters, last", x.group(10, 2), Due.group(23, 7, 8, 9, 10));
        Due.due("12 letters, 0", x.group(11, 0), Due.group(23, 12, 25, 1, 2));
        Due.due("12 letters, 1", x.group(11, 1), Due.group(23, 3, 4, 5, 6));
        Due.due("12 letters, 2", x.group(11, 2), Due.group(23, 7, 8, 9, 10));
        Due.due("12 letters, 3", x.group(11, 3), Due.group(23, 11, 0, 0, 0));
    }

    private static void numbers() {
        TelegraphHouse x = Due.withBook(0, 1);
        Due.message(x, "0 331775 331776 999999999 25");
        Due.due("groups", x.condense(0, 0), 7);
        Due.due("0", x.group(0, 0), Due.group(25, 0, 0, 0, 0));
        Due.due("331775", x.group(0, 1), Due.group(25, 23, 23, 23, 23));
        Due.due("331776 high", x.group(0, 2), Due.group(24, 0, 0, 0, 1));
        Due.due("331776 low", x.group(0, 3), Due.group(25, 0, 0, 0, 0));
        // 999999999 is 3014 times 331776 and 27135 more.
        Due.due("999999999 high", x.group(0, 4), Due.group(24, 0, 5, 5, 14));
        Due.due("999999999 low", x.group(0, 5), Due.group(25, 1, 23, 2, 15));
        Due.due("25", x.group(0, 6), Due.group(25, 0, 0, 1, 1));
        Due.due("expands", x.expands(0), 1);
        Due.due("its parts", x.about(0, 4), 5);
    }

    /** To take the longest phrase at once would cost more here. */
    private static void fewestGroups() {
        TelegraphHouse x = Due.withBook(0, 1, "alpha bravo", "bravo carrier deltas echoes", "alpha");
        Due.message(x, "alpha bravo carrier deltas echoes");
        Due.due("groups", x.condense(0, 0), 2);
        Due.due("part 0", x.part(0, 0, 2), 2);
        Due.due("part 1", x.part(0, 1, 2), 1);
        Due.due("part 1 covers", x.part(0, 1, 1), 4);
    }

    /** The groups of two ways are as many, but not their parts. */
    private static void fewestParts() {
        fewestParts("up", "up sell the", "the carriage");
        fewestParts("up sell the", "up", "the carriage");
        fewestParts("the carriage", "up sell the", "up");
        fewestParts("the carriage", "up sell the");
    }

    /** One phrase and three groups of a word, not "up", two groups of a word, and a phrase. */
    private static void fewestParts(String... phrases) {
        TelegraphHouse x = Due.withBook(0, 1, phrases);
        Due.message(x, "up sell the carriage");
        Due.due("groups", x.condense(0, 0), 4);
        Due.due("parts", x.about(0, 4), 2);
        Due.due("first covers three", x.part(0, 0, 1), 3);
        Due.due("then a word", x.part(0, 1, 0), 1);
    }

    private static void moreTokensFirst() {
        TelegraphHouse x = Due.withBook(0, 1, "a", "b c", "a b", "c", "d");
        Due.message(x, "a b c d");
        Due.due("groups", x.condense(0, 0), 3);
        Due.due("parts", x.about(0, 4), 3);
        Due.due("two at first", x.part(0, 0, 2), 2);
        Due.due("then one", x.part(0, 1, 2), 3);
        Due.due("then one more", x.part(0, 2, 2), 4);
        TelegraphHouse y = Due.withBook(0, 1, "a b", "b c", "a", "c", "d");
        Due.message(y, "a b c d");
        y.condense(0, 0);
        Due.due("two at first, however they are numbered", y.part(0, 0, 2), 0);
    }

    private static void phraseAheadOfSpelled() {
        TelegraphHouse x = Due.withBook(10, 2, "zz", "at");
        Due.message(x, "at it");
        x.condense(0, 0);
        Due.due("a phrase", x.part(0, 0, 0), 0);
        Due.due("its number", x.part(0, 0, 2), 1);
        Due.due("its group", x.group(0, 0), x.sound(12));
        Due.due("spelled", x.part(0, 1, 0), 1);
    }

    private static void parts() {
        TelegraphHouse x = Due.withBook(0, 1, "x", "stop press");
        Due.message(x, "stop press stop 9");
        Due.due("no form", x.part(0, 0, 0), TelegraphHouse.UNKNOWN);
        x.condense(0, 0);
        int[][] want = {{0, 2, 1}, {1, 1, TelegraphHouse.NONE}, {2, 1, TelegraphHouse.NONE}};
        for (int i = 0; i < want.length; i++) {
            for (int what = 0; what < 3; what++) {
                Due.due("part(0, " + i + ", " + what + ")", x.part(0, i, what), want[i][what]);
            }
        }
        Due.due("no part 3", x.part(0, 3, 0), TelegraphHouse.UNKNOWN);
        Due.due("no part -1", x.part(0, -1, 0), TelegraphHouse.UNKNOWN);
        Due.due("no message", x.part(1, 0, 0), TelegraphHouse.UNKNOWN);
        Due.due("unknown ahead of outside", x.part(0, 3, 9), TelegraphHouse.UNKNOWN);
        Due.due("outside below", x.part(0, 0, -1), TelegraphHouse.OUTSIDE);
        Due.due("outside above", x.part(0, 0, 3), TelegraphHouse.OUTSIDE);
        x.hurt(0, 0, 0, 25);
        Due.due("as it was condensed", x.part(0, 0, 0), 0);
    }

    private static void groups() {
        TelegraphHouse x = Due.withBook(0, 1);
        Due.message(x, "1 2");
        Due.due("no form", x.group(0, 0), TelegraphHouse.UNKNOWN);
        x.condense(0, 0);
        Due.due("group 1", x.group(0, 1), Due.group(25, 0, 0, 0, 2));
        x.hurt(0, 1, 2, 7);
        Due.due("as it is now", x.group(0, 1), Due.group(25, 0, 7, 0, 2));
        Due.due("below", x.group(0, -1), TelegraphHouse.UNKNOWN);
        Due.due("above", x.group(0, 2), TelegraphHouse.UNKNOWN);
        Due.due("far above", x.group(0, Integer.MAX_VALUE), TelegraphHouse.UNKNOWN);
        Due.due("no message", x.group(-1, 0), TelegraphHouse.UNKNOWN);
    }

    /** A form is made anew by another book, and what was hurt is gone. */
    private static void anew() {
        TelegraphHouse x = Due.withBook(0, 1, "carriage");
        x.book(50, 1);
        Due.phrase(x, 1, "other");
        x.close(1);
        Due.message(x, "carriage other");
        Due.due("by book 1", x.condense(0, 1), 4);
        x.hurt(0, 0, 1, 3);
        Due.due("by book 0", x.condense(0, 0), 3);
        Due.due("its book", x.about(0, 3), 0);
        Due.due("its groups", x.about(0, 2), 3);
        Due.due("no fourth group", x.group(0, 3), TelegraphHouse.UNKNOWN);
        Due.due("group 0", x.group(0, 0), x.sound(0));
        Due.due("expands", x.expands(0), 1);
        Due.due("by book 1 again", x.condense(0, 1), 4);
        Due.due("expands by book 1", x.expands(0), 1);
    }

    private static void expansion() {
        TelegraphHouse x = Due.withBook(0, 1, "a b", "a");
        Due.message(x, "a b 7 up");
        Due.due("unknown", x.expands(1), TelegraphHouse.UNKNOWN);
        Due.due("unknown below", x.expands(-1), TelegraphHouse.UNKNOWN);
        Due.due("no form", x.expands(0), TelegraphHouse.STATE);
        x.condense(0, 0);
        Due.due("to its tokens", x.expands(0), 1);
        x.hurt(0, 1, 4, 8);
        Due.due("another number", x.expands(0), 0);
        x.hurt(0, 1, 4, 7);
        x.hurt(0, 2, 2, 0);
        Due.due("another word", x.expands(0), 0);
        x.hurt(0, 2, 2, 20);
        setGroup(x, 0, x.groupOf(0, 1));
        Due.due("another phrase: a token is missing", x.expands(0), 0);
        setGroup(x, 0, x.groupOf(0, 0));
        Due.due("as it was", x.expands(0), 1);
        Due.message(x, "a 7 up");
        x.condense(1, 0);
        Due.setGroup(x, 1, 0, x.groupOf(0, 0));
        Due.due("another phrase: a token too many", x.expands(1), 0);
        // The same tokens, otherwise told: "a b" is two spelled groups as well.
        Due.message(x, "ab c");
        x.condense(2, 0);
        Due.setGroup(x, 2, 0, Due.group(23, 2, 0, 1, 0));
        Due.setGroup(x, 2, 1, Due.group(23, 1, 2, 0, 0));
        Due.due("told alike", x.expands(2), 1);
        Due.setGroup(x, 2, 0, x.groupOf(0, 1));
        Due.due("a phrase instead", x.expands(2), 0);
        lastTokenMissing();
    }

    /** All that is told is right, but it ends too early. */
    private static void lastTokenMissing() {
        TelegraphHouse x = Due.withBook(0, 1, "carriage way", "carriage");
        Due.message(x, "up carriage way");
        x.condense(0, 0);
        setGroup(x, 1, x.groupOf(0, 1));
        Due.due("the last token is missing", x.expands(0), 0);
    }

    private static void setGroup(TelegraphHouse x, int k, int group) {
        Due.setGroup(x, 0, k, group);
    }

    private static void failures() {
        TelegraphHouse x = Due.withBook(0, 1, "a b");
        Due.message(x, "abcd 1000000 9");
        Due.due("groups", x.condense(0, 0), 5);
        Due.due("right", x.expands(0), 1);
        fails(x, "no phrase has it", 4, x.sound(1), 2);
        fails(x, "a phrase", 4, x.sound(0), 0);
        fails(x, "digit above 23", 4, Due.group(25, 0, 0, 0, 24), 2);
        fails(x, "digit above 23 at first", 4, Due.group(25, 24, 0, 0, 0), 2);
        fails(x, "digit 23", 4, Due.group(25, 23, 0, 0, 0), 0);
        fails(x, "high digit above 23", 2, Due.group(24, 0, 0, 24, 1), 2);
        fails(x, "first digits all 0", 2, Due.group(24, 0, 0, 0, 0), 2);
        fails(x, "above 999999999", 2, Due.group(24, 0, 5, 5, 15), 2);
        fails(x, "far above it", 2, Due.group(24, 23, 23, 23, 23), 2);
        fails(x, "below it", 2, Due.group(24, 0, 5, 5, 13), 0);
        fails(x, "24, and 24 behind it", 3, Due.group(24, 0, 0, 0, 1), 2);
        fails(x, "24, and nothing behind it", 4, Due.group(24, 0, 0, 0, 1), 2);
        fails(x, "24, and a word behind it", 3, Due.group(23, 1, 0, 0, 0), 2);
        fails(x, "n is 0", 0, Due.group(23, 0, 0, 0, 0), 2);
        fails(x, "n is 13", 0, Due.group(23, 13, 0, 0, 0), 2);
        fails(x, "n is 25", 0, Due.group(23, 25, 0, 0, 0), 2);
        fails(x, "n is 3: the next one has no such n", 0, Due.group(23, 3, 0, 1, 2), 0);
        fails(x, "n is 2, a letter behind", 0, Due.group(23, 2, 0, 1, 2), 2);
        fails(x, "a letter behind the fourth", 1, Due.group(23, 3, 0, 0, 1), 2);
        fails(x, "another fourth letter", 1, Due.group(23, 4, 0, 0, 0), 0);
        fails(x, "what belongs to it begins with 25", 1, Due.group(25, 3, 0, 0, 0), 2);
        fails(x, "what belongs to it is missing", 4, Due.group(23, 4, 0, 1, 2), 2);
        fails(x, "a word that ends it", 4, Due.group(23, 3, 0, 1, 2), 0);
        exactMost();
    }

    /** The group k is another one for a time. */
    private static void fails(TelegraphHouse x, String what, int k, int group, int want) {
        int was = x.group(0, k);
        setGroup(x, k, group);
        Due.due(what, x.expands(0), want);
        setGroup(x, k, was);
        Due.due("put back", x.expands(0), 1);
    }

    private static void exactMost() {
        TelegraphHouse x = Due.withBook(0, 1);
        Due.message(x, "999999998");
        x.condense(0, 0);
        int low = x.group(0, 1);
        setGroup(x, 1, low + 1);
        Due.due("999999999", x.expands(0), 0);
        setGroup(x, 1, low + 2);
        Due.due("1000000000", x.expands(0), 2);
    }

    private static void bests() {
        TelegraphHouse x = new TelegraphHouse();
        Due.message(x, "carriage way to hell");
        Due.due("no book", x.best(0), TelegraphHouse.NONE);
        x.book(0, 1);
        x.book(0, 1);
        x.book(0, 1);
        Due.phrase(x, 0, "hell");
        Due.phrase(x, 1, "carriage way");
        Due.phrase(x, 2, "carriage");
        Due.phrase(x, 2, "way to");
        Due.due("none is closed", x.best(0), TelegraphHouse.NONE);
        x.close(0);
        Due.due("book 0 alone", x.best(0), 0);
        x.close(2);
        Due.due("book 2 is better", x.best(0), 2);
        x.close(1);
        Due.due("book 1 has as few", x.best(0), 1);
        Due.due("it has no form then", x.about(0, 2), 0);
        Due.due("by 0", x.condense(0, 0), 6);
        Due.due("by 1", x.condense(0, 1), 4);
        Due.due("by 2", x.condense(0, 2), 4);
        Due.due("its form stays", x.best(0), 1);
        Due.due("book", x.about(0, 3), 2);
        Due.due("unknown", x.best(1), TelegraphHouse.UNKNOWN);
        Due.due("unknown below", x.best(-1), TelegraphHouse.UNKNOWN);
    }

    private static void longestForms() {
        TelegraphHouse x = Due.withBook(0, 1, "a b c d");
        StringBuilder longest = new StringBuilder();
        for (int i = 0; i < 20; i++) {
            longest.append("zzzzzzzzzzzz ");
        }
        Due.message(x, longest.toString());
        Due.due("80 groups are the best there is", x.best(0), 0);
        Due.due("80 groups", x.condense(0, 0), 80);
        Due.due("they expand", x.expands(0), 1);
        Due.due("group 79", x.group(0, 79), Due.group(23, 25, 0, 0, 0));
        Due.due("no group 80", x.group(0, 80), TelegraphHouse.UNKNOWN);
        Due.due("part 19", x.part(0, 19, 0), 1);
        Due.due("no part 20", x.part(0, 20, 0), TelegraphHouse.UNKNOWN);
        int phrase = x.groupOf(0, 0);
        for (int k = 0; k < 80; k++) {
            setGroup(x, k, phrase);
        }
        Due.due("320 tokens are told", x.expands(0), 0);
        thirtyForms();
        tokensBehindTheLast();
    }

    private static void thirtyForms() {
        TelegraphHouse x = Due.withBook(0, 1, "a b c d");
        Due.message(x, "z");
        Due.message(x, "a b c d a b c d a b c d a b c d a b c d");
        Due.due("5 groups", x.condense(1, 0), 5);
        Due.due("of 20 tokens", x.expands(1), 1);
        for (int m = 2; m < 30; m++) {
            Due.message(x, "a b c d e");
            x.condense(m, 0);
        }
        Due.due("the last message", x.about(29, 2), 2);
        Due.due("no message 30", x.about(30, 2), TelegraphHouse.UNKNOWN);
        Due.due("no message 31", x.expands(31), TelegraphHouse.UNKNOWN);
    }

    /** Twenty tokens are told as they are, and then one more. */
    private static void tokensBehindTheLast() {
        TelegraphHouse x = Due.withBook(0, 1, "a b c d", "d");
        Due.message(x, "d d d d d d d d d d d d d d d d d d d a");
        Due.due("20 groups", x.condense(0, 0), 20);
        setGroup(x, 19, x.groupOf(0, 0));
        Due.due("23 tokens are told", x.expands(0), 0);
    }
}
