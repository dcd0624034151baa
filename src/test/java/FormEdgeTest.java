/** Parts 2 and 3, FORMS, and promises 11 to 16: each sentence with a bound has a test of its own. */
public final class FormEdgeTest {
    private static final int UNKNOWN = TelegraphHouse.UNKNOWN;
    private static final int OUTSIDE = TelegraphHouse.OUTSIDE;
    private static final int STATE = TelegraphHouse.STATE;
    private static final int NONE = TelegraphHouse.NONE;
    private static final int LEAST = Integer.MIN_VALUE;
    private static final int MOST = Integer.MAX_VALUE;
    private static final int[] NO_NUMBERS = {LEAST, -9, -1, MOST};

    public static void main(String[] args) {
        numbersOfOneGroup();
        numbersOfTwoGroups();
        wordsSpelled();
        lettersThatAreNotThere();
        phraseIsJustItsWords();
        phraseBehindTheEnd();
        fewestGroups();
        fewestParts();
        moreTokensAtTheFirstPart();
        moreTokensAtALaterPart();
        thePhraseOfLikeMany();
        insteadOfOneThatItHad();
        condenseUnknown();
        condenseNotClosed();
        condenseWasSent();
        notGuardedThen();
        longestForm();
        groupIsNoneOfThese();
        phraseOfAnotherBook();
        digitsAbove23();
        aboveTheGreatestNumber();
        firstDigitsAllZero();
        nextOneWith25();
        lettersOutOf1To12();
        letterNotThereTold();
        whatBelongsIsMissing();
        whatBelongsWithout23();
        failsAheadOfOthers();
        toOthers();
        toJustItsTokens();
        moreThanTwentyTokens();
        eightyTokens();
        behindTheFormsEnd();
        expandsRefused();
        aboutBounds();
        aboutWithoutForm();
        partBounds();
        partAsItWasCondensed();
        groupBounds();
        bestBounds();
        bestOfLikeOnes();
        Due.end();
    }

    private static int digits(int lead, int v) {
        return Due.group(lead, v / 13824, v / 576 % 24, v / 24 % 24, v % 24);
    }

    /** A message of its own, condensed by a book of these phrases. */
    private static TelegraphHouse condensed(String text, String... phrases) {
        TelegraphHouse x = Due.withBook(0, 1, phrases);
        Due.due("message '" + text + "'", Due.message(x, text), 0);
        x.condense(0, 0);
        return x;
    }

    private static void numbersOfOneGroup() {
        Due.sentence("A NUMBER v is told by one GROUP, if it is below 331776");
        int[] values = {0, 1, 23, 24, 25, 575, 576, 13823, 13824, 331774, 331775};
        for (int v : values) {
            TelegraphHouse x = condensed(String.valueOf(v));
            Due.due("groups of " + v, x.about(0, 2), 1);
            Due.due("group of " + v, x.group(0, 0), digits(25, v));
            Due.due("expands", x.expands(0), 1);
        }
        Due.due("331775", condensed("331775").group(0, 0), Due.group(25, 23, 23, 23, 23));
    }

    private static void numbersOfTwoGroups() {
        Due.sentence("else by two: 24 and four such digits of v / 331776, then 25 and those of what is left");
        int[] values = {331776, 331777, 663551, 663552, 7962623, 7962624, 999999998, 999999999};
        for (int v : values) {
            TelegraphHouse x = condensed(String.valueOf(v));
            Due.due("groups of " + v, x.about(0, 2), 2);
            Due.due("first group of " + v, x.group(0, 0), digits(24, v / 331776));
            Due.due("second group of " + v, x.group(0, 1), digits(25, v % 331776));
            Due.due("parts of " + v, x.about(0, 4), 1);
            Due.due("expands", x.expands(0), 1);
        }
        TelegraphHouse x = condensed("331776");
        Due.due("331776, first", x.group(0, 0), Due.group(24, 0, 0, 0, 1));
        Due.due("331776, second", x.group(0, 1), Due.group(25, 0, 0, 0, 0));
    }

    /** The letters of a spelled word: n, those of the word, and 0 behind them. */
    private static int spelled(String word, int g) {
        int[] row = new int[16];
        row[0] = word.length();
        for (int i = 0; i < word.length(); i++) {
            row[i + 1] = word.charAt(i) - 'a';
        }
        return Due.group(23, row[4 * g], row[4 * g + 1], row[4 * g + 2], row[4 * g + 3]);
    }

    private static void wordsSpelled() {
        Due.sentence("A WORD of n letters is SPELLED by 1 + n / 4 GROUPS");
        int[] groups = {0, 1, 1, 1, 2, 2, 2, 2, 3, 3, 3, 3, 4};
        for (int n = 1; n <= 12; n++) {
            String word = "bcdefghijklm".substring(0, n);
            TelegraphHouse x = condensed(word);
            Due.due("groups of " + word, x.about(0, 2), groups[n]);
            for (int g = 0; g < groups[n]; g++) {
                Due.due("group " + g + " of " + word, x.group(0, g), spelled(word, g));
            }
            Due.due("no more of " + word, x.group(0, groups[n]), UNKNOWN);
            Due.due("expands", x.expands(0), 1);
        }
    }

    private static void lettersThatAreNotThere() {
        Due.sentence("letters that are not there are 0");
        Due.due("1 letter", condensed("z").group(0, 0), Due.group(23, 1, 25, 0, 0));
        Due.due("2 letters", condensed("zz").group(0, 0), Due.group(23, 2, 25, 25, 0));
        Due.due("3 letters", condensed("zzz").group(0, 0), Due.group(23, 3, 25, 25, 25));
        Due.due("4 letters", condensed("zzzz").group(0, 1), Due.group(23, 25, 0, 0, 0));
        Due.due("7 letters", condensed("zzzzzzz").group(0, 1), Due.group(23, 25, 25, 25, 25));
        Due.due("8 letters", condensed("zzzzzzzz").group(0, 2), Due.group(23, 25, 0, 0, 0));
        Due.due("12 letters", condensed("zzzzzzzzzzzz").group(0, 3), Due.group(23, 25, 0, 0, 0));
        // Letters of a longer form that was there ahead of it are gone too.
        TelegraphHouse x = Due.withBook(0, 1, "zzzz");
        x.book(0, 1);
        x.close(1);
        Due.message(x, "zzzz z");
        x.condense(0, 1);
        x.condense(0, 0);
        Due.due("behind a longer form", x.group(0, 1), Due.group(23, 1, 25, 0, 0));
    }

    /** The parts of a message, each as its sort, how many it covers, and its phrase. */
    private static void parts(TelegraphHouse x, String name, int[]... want) {
        Due.due(name + ": parts", x.about(0, 4), want.length);
        for (int i = 0; i < want.length; i++) {
            for (int what = 0; what < 3; what++) {
                Due.due(name + ": part " + i + ", " + what, x.part(0, i, what), want[i][what]);
            }
        }
        Due.due(name + ": no more", x.part(0, want.length, 0), UNKNOWN);
    }

    private static int[] phrase(int cover, int number) {
        return new int[] {0, cover, number};
    }

    private static int[] word() {
        return new int[] {1, 1, NONE};
    }

    private static int[] number() {
        return new int[] {2, 1, NONE};
    }

    private static void phraseIsJustItsWords() {
        Due.sentence("a PHRASE of the BOOK for as many WORDS that are just its WORDS (one GROUP)");
        parts(condensed("a b", "a b"), "just its words", phrase(2, 0));
        parts(condensed("a", "a b"), "it is too short", word());
        parts(condensed("a c", "a b"), "another last word", word(), word());
        parts(condensed("b a", "a b"), "turned round", word(), word());
        parts(condensed("ab", "a b"), "in one", word());
        parts(condensed("a 1 b", "a b"), "a number between", word(), number(), word());
        parts(condensed("aa b", "a b"), "a longer word", word(), word());
        parts(condensed("c a b", "a b"), "at the end", word(), phrase(2, 0));
        parts(condensed("c a", "a b"), "it would go on behind the end", word(), word());
        parts(condensed("a b c d", "a b c d"), "four words", phrase(4, 0));
        parts(condensed("a b c d a b c", "a b c d"), "but once", phrase(4, 0), word(), word(), word());
        parts(condensed("a b", "c", "d", "a b"), "its number", phrase(2, 2));
        Due.due("its group", condensed("a b", "c", "d", "a b").group(0, 0), new TelegraphHouse().sound(2));
        parts(condensed("0 7"), "numbers", number(), number());
    }

    /** Twenty tokens, the last ones of which a phrase begins with. */
    private static void phraseBehindTheEnd() {
        Due.sentence("for as many WORDS that are just its WORDS");
        String[] words = {"a", "b", "c", "d"};
        for (int n = 1; n <= 4; n++) {
            StringBuilder text = new StringBuilder("7 ".repeat(20 - n));
            for (int i = 0; i < n; i++) {
                text.append(words[i]).append(' ');
            }
            TelegraphHouse x = condensed(text.toString(), "a b c d");
            Due.due(n + " words of four: groups", x.about(0, 2), n == 4 ? 17 : 20);
            Due.due(n + " words of four: the last part", x.part(0, n == 4 ? 16 : 19, 0), n == 4 ? 0 : 1);
            Due.due("expands", x.expands(0), 1);
        }
    }

    private static void fewestGroups() {
        Due.sentence("Of all ways that one is taken that has the fewest GROUPS");
        // Three groups in three parts, not four groups in two parts.
        parts(condensed("up sell the carriage", "up sell the", "up", "sell", "the carriage"),
                "more parts, fewer groups", phrase(1, 1), phrase(1, 2), phrase(2, 3));
        parts(condensed("alpha bravo carrier deltas echoes", "alpha bravo", "bravo carrier deltas echoes", "alpha"),
                "not the longest at once", phrase(1, 2), phrase(4, 1));
        // "alpha" spelled has two groups, "carriage" has three.
        parts(condensed("alpha bravo carriage", "alpha bravo", "bravo carriage"),
                "a word spelled, then a phrase", word(), phrase(2, 1));
    }

    private static void fewestParts() {
        Due.sentence("of these the fewest PARTS");
        String[][] orders = {
            {"up", "up sell the", "the carriage"}, {"up sell the", "up", "the carriage"},
            {"the carriage", "up sell the", "up"}, {"the carriage", "up", "up sell the"},
        };
        int[] first = {1, 0, 1, 2};
        for (int i = 0; i < orders.length; i++) {
            TelegraphHouse x = condensed("up sell the carriage", orders[i]);
            parts(x, "order " + i, phrase(3, first[i]), word());
            Due.due("groups", x.about(0, 2), 4);
        }
        // The way of fewer parts begins with the part that covers fewer tokens.
        parts(condensed("up to sell carriage way", "up to", "to sell carriage way", "sell", "carriage way"),
                "one token first", word(), phrase(4, 1));
    }

    private static void moreTokensAtTheFirstPart() {
        Due.sentence("of these at the first PART that is unlike the one that covers more TOKENS");
        String[][] orders = {
            {"a", "b c d", "a b", "c d", "a b c", "d"}, {"a b c", "d", "a b", "c d", "a", "b c d"},
            {"a b", "c d", "a b c", "d", "b c d", "a"},
        };
        int[][] taken = {{4, 5}, {0, 1}, {2, 3}};
        for (int i = 0; i < orders.length; i++) {
            parts(condensed("a b c d", orders[i]), "three ways of two, order " + i,
                    phrase(3, taken[i][0]), phrase(1, taken[i][1]));
        }
        parts(condensed("a b c d", "a", "b c d", "a b", "c d"), "two and two", phrase(2, 2), phrase(2, 3));
        parts(condensed("a b", "a b"), "a phrase, not two words", phrase(2, 0));
        // Nothing but spelled words on one side: "a", then "b c", against "a b", then "c".
        parts(condensed("a b c", "b c", "a b"), "spelled and phrase", phrase(2, 1), word());
    }

    private static void moreTokensAtALaterPart() {
        Due.sentence("at the first PART that is unlike");
        parts(condensed("x a b c", "x", "a", "b c", "a b", "c"), "the second part",
                phrase(1, 0), phrase(2, 3), phrase(1, 4));
        parts(condensed("7 a b c 9", "b c", "a b"), "behind a number",
                number(), phrase(2, 1), word(), number());
        // 2 1 2 and 2 2 1, and 1 2 2: the first part decides, then the second.
        parts(condensed("a b c d e", "a b", "c", "d e", "c d", "e", "a", "b c"), "of three ways",
                phrase(2, 0), phrase(2, 3), phrase(1, 4));
    }

    private static void thePhraseOfLikeMany() {
        Due.sentence("and, of like many, the PHRASE");
        for (String w : new String[] {"a", "at", "the"}) {
            parts(condensed(w, "zz", w), w + " is a phrase", phrase(1, 1));
            parts(condensed("7 " + w + " " + w, w), w + " twice", number(), phrase(1, 0), phrase(1, 0));
        }
        parts(condensed("a b", "b"), "where there is one", word(), phrase(1, 0));
    }

    private static void insteadOfOneThatItHad() {
        Due.sentence("Its GROUPS, in order, are the FORM of the MESSAGE, instead of one that it had.");
        TelegraphHouse x = Due.withBook(0, 1, "carriage way");
        x.book(50, 1);
        Due.phrase(x, 1, "way");
        x.close(1);
        Due.message(x, "carriage way 7");
        Due.due("by book 1", x.condense(0, 1), 5);
        x.hurt(0, 4, 4, 9);
        Due.due("by book 0", x.condense(0, 0), 2);
        parts(x, "by book 0", phrase(2, 0), number());
        Due.due("group 0", x.group(0, 0), x.sound(0));
        Due.due("group 1", x.group(0, 1), Due.group(25, 0, 0, 0, 7));
        Due.due("no group 2", x.group(0, 2), UNKNOWN);
        Due.due("its book", x.about(0, 3), 0);
        Due.due("its count", x.about(0, 1), 2);
        Due.due("by book 1 again", x.condense(0, 1), 5);
        parts(x, "by book 1", word(), phrase(1, 0), number());
        Due.due("what was hurt is gone", x.group(0, 4), Due.group(25, 0, 0, 0, 7));
        Due.due("its book then", x.about(0, 3), 1);
    }

    private static void condenseUnknown() {
        Due.sentence("A MESSAGE is condensed by a BOOK: how many GROUPS. UNKNOWN");
        for (int n : new int[] {LEAST, -9, -1, 1, 2, 30, MOST}) {
            TelegraphHouse x = Due.withBook(0, 1);
            Due.message(x, "a");
            Due.due("message " + n, x.condense(n, 0), UNKNOWN);
            Due.due("book " + n, x.condense(0, n), UNKNOWN);
            Due.due("both " + n, x.condense(n, n), UNKNOWN);
            Due.due("no form", x.about(0, 2), 0);
        }
    }

    private static void condenseNotClosed() {
        Due.sentence("STATE: the BOOK is not closed");
        TelegraphHouse x = Due.withBook(0, 1, "carriage");
        x.book(9, 1);
        Due.phrase(x, 1, "carriage way");
        Due.message(x, "carriage way");
        Due.due("open, no form", x.condense(0, 1), STATE);
        Due.due("no form", x.about(0, 2), 0);
        x.condense(0, 0);
        x.guard(0);
        Due.due("open, with a form", x.condense(0, 1), STATE);
        Due.due("its form stays", x.about(0, 2), 2);
        Due.due("its book stays", x.about(0, 3), 0);
        Due.due("it is guarded still", x.about(0, 5), 1);
        x.close(1);
        Due.due("closed", x.condense(0, 1), 1);
    }

    /** Once it was sent, it is refused however it is. */
    private static void condenseWasSent() {
        Due.sentence("the MESSAGE was sent");
        TelegraphHouse x = Due.withBook(0, 1);
        Due.message(x, "carriage");
        Due.message(x, "carriage");
        x.station();
        x.station();
        x.line(0, 1, 5, 0, 0);
        x.condense(0, 0);
        Due.due("not sent", x.condense(0, 0), 3);
        x.send(0, 0, 1, 0);
        x.send(1, 1, 0, 0);
        int[][] states = {{1, 1}, {2, 2}, {4, 3}, {1, 3}};
        for (int[] s : states) {
            for (int m = 0; m < 2; m++) {
                Due.due("how " + m + " is", x.where(m, 0), s[m]);
                Due.due("condense " + m, x.condense(m, 0), STATE);
            }
            if (s[0] == 1) {
                x.lose(0);
                x.step(1);
            } else if (s[0] == 2) {
                x.step(5);
            } else {
                x.ask(1);
            }
        }
        Due.due("its form stays", x.about(0, 2), 3);
        Due.due("the other has none", x.about(1, 2), 0);
        Due.due("unknown book, ahead of it", x.condense(0, 1), UNKNOWN);
    }

    private static void notGuardedThen() {
        Due.sentence("(Its FORM is not GUARDED then.)");
        TelegraphHouse x = condensed("a 7");
        x.guard(0);
        x.mend(0);
        x.condense(0, 0);
        Due.due("no blocks", x.about(0, 5), 0);
        Due.due("no sum", x.sum(0, 0, 0), UNKNOWN);
        Due.due("nothing mended", x.mended(0, 0), UNKNOWN);
        Due.due("mend", x.mend(0), STATE);
        Due.due("guard", x.guard(0), 1);
        Due.due("none since", x.mended(0, 0), NONE);
    }

    private static void longestForm() {
        Due.sentence("1 to 20 TOKENS");
        TelegraphHouse x = condensed("zzzzzzzzzzzz ".repeat(20), "a");
        Due.due("groups", x.about(0, 2), 80);
        Due.due("parts", x.about(0, 4), 20);
        Due.due("best", x.best(0), 0);
        Due.due("expands", x.expands(0), 1);
        Due.due("the last group", x.group(0, 79), Due.group(23, 25, 0, 0, 0));
        Due.due("no group 80", x.group(0, 80), UNKNOWN);
        Due.due("the last part", x.part(0, 19, 0), 1);
        Due.due("no part 20", x.part(0, 20, 0), UNKNOWN);
        TelegraphHouse y = condensed("999999999 ".repeat(20));
        Due.due("groups of numbers", y.about(0, 2), 40);
        Due.due("expand", y.expands(0), 1);
        TelegraphHouse z = condensed("a b c d ".repeat(5), "a b c d");
        Due.due("groups of phrases", z.about(0, 2), 5);
        Due.due("they expand", z.expands(0), 1);
    }

    /** What a message expands to, when groups (k, group, k, group, ..) of its form are other ones. */
    private static void expands(String name, int want, String text, int... changes) {
        TelegraphHouse x = condensed(text, "a b", "up");
        Due.due(name + ": as it was", x.expands(0), 1);
        for (int i = 0; i < changes.length; i += 2) {
            Due.due(name + ": there is a group", x.group(0, changes[i]) != UNKNOWN);
            Due.setGroup(x, 0, changes[i], changes[i + 1]);
        }
        Due.due(name, x.expands(0), want);
    }

    private static void groupIsNoneOfThese() {
        Due.sentence("It fails, where a GROUP is none of these");
        TelegraphHouse x = new TelegraphHouse();
        expands("a phrase", 0, "7", 0, x.sound(0));
        expands("the last phrase", 0, "7", 0, x.sound(1));
        expands("sound, but no phrase has it", 2, "7", 0, x.sound(2));
        expands("not sound", 2, "7", 0, 1);
        expands("one letter beside a phrase", 2, "up", 0, x.sound(1) + 1);
        for (int lead = 1; lead <= 22; lead++) {
            expands("begins with " + lead, 2, "7", 0, Due.group(lead, 1, 0, 0, 0));
        }
        expands("the first one", 2, "7 8 9", 0, x.sound(2));
        expands("one between", 2, "7 8 9", 1, x.sound(2));
        expands("the last one", 2, "7 8 9", 2, x.sound(2));
    }

    private static void phraseOfAnotherBook() {
        Due.sentence("by the BOOK by which it was made");
        TelegraphHouse x = Due.withBook(0, 1, "up");
        x.book(100, 1);
        Due.phrase(x, 1, "down");
        x.close(1);
        Due.message(x, "up down");
        x.condense(0, 0);
        Due.due("by book 0", x.expands(0), 1);
        Due.setGroup(x, 0, 0, x.groupOf(1, 0));
        Due.due("a group of book 1", x.expands(0), 2);
        x.condense(0, 1);
        Due.due("by book 1", x.expands(0), 1);
        Due.setGroup(x, 0, 0, x.groupOf(0, 0));
        Due.due("a group of book 0", x.expands(0), 2);
    }

    private static void digitsAbove23() {
        Due.sentence("digits above 23");
        for (int place = 1; place <= 4; place++) {
            int unit = place == 1 ? 17576 : place == 2 ? 676 : place == 3 ? 26 : 1;
            for (int digit = 22; digit <= 25; digit++) {
                String name = "digit " + digit + " at place " + place;
                int want = digit > 23 ? 2 : 0;
                expands(name, want, "0", 0, Due.group(25, 0, 0, 0, 0) + digit * unit);
                expands(name + " of the second of two", want, "663552", 1, Due.group(25, 0, 0, 0, 0) + digit * unit);
                // The first of two is too great anyhow, if its higher digits are so.
                if (place > 2) {
                    expands(name + " of the first of two", want, "663552", 0, Due.group(24, 0, 0, 0, 0) + digit * unit);
                }
            }
        }
    }

    private static void aboveTheGreatestNumber() {
        Due.sentence("a two-GROUP NUMBER above 999999999");
        // 999999999 is 3014 times 331776 and 27135 more.
        expands("999999999", 1, "999999999", 0, digits(24, 3014), 1, digits(25, 27135));
        expands("999999998", 0, "999999999", 1, digits(25, 27134));
        expands("1000000000", 2, "999999999", 1, digits(25, 27136));
        expands("1000000001", 2, "999999999", 1, digits(25, 27137));
        expands("3014, and the most", 2, "999999999", 1, digits(25, 331775));
        expands("3015, and 0", 2, "999999999", 0, digits(24, 3015), 1, digits(25, 0));
        expands("3013, and the most", 0, "999999999", 0, digits(24, 3013), 1, digits(25, 331775));
        expands("the most of both", 2, "999999999", 0, digits(24, 331775), 1, digits(25, 331775));
        // 12945 times 331776 and 126976 more are 2 to the 32nd, which an int would wrap to 0.
        expands("2 to the 32nd", 2, "999999999", 0, digits(24, 12945), 1, digits(25, 126976));
    }

    private static void firstDigitsAllZero() {
        Due.sentence("or whose first digits are all 0");
        expands("0 and 5", 2, "331781", 0, digits(24, 0));
        expands("0 and 0", 2, "331776", 0, digits(24, 0));
        expands("0 and the most", 2, "331776", 0, digits(24, 0), 1, digits(25, 331775));
        expands("1 and 0", 0, "663552", 0, digits(24, 1));
        for (int v : new int[] {1, 24, 576}) {
            expands("a digit of " + v, 0, "999999999", 0, digits(24, v));
        }
    }

    private static void nextOneWith25() {
        Due.sentence("one with 24 and a next one with 25 a NUMBER");
        TelegraphHouse x = new TelegraphHouse();
        expands("nothing behind it", 2, "7", 0, digits(24, 1));
        expands("nothing behind it, with others ahead", 2, "7 8", 1, digits(24, 1));
        expands("25 behind it", 0, "7 8", 0, digits(24, 1));
        expands("24 behind it", 2, "7 8 9", 0, digits(24, 1), 1, digits(24, 1));
        expands("23 behind it", 2, "7 a", 0, digits(24, 1));
        expands("a phrase behind it", 2, "7 up", 0, digits(24, 1));
        expands("two of them", 0, "7 8 7 8", 0, digits(24, 1), 2, digits(24, 1));
        expands("25 alone", 0, "663552", 0, digits(25, 2));
        expands("the first of two as a phrase", 0, "663552", 0, x.sound(1));
    }

    private static void lettersOutOf1To12() {
        Due.sentence("n not 1 .. 12");
        for (int n = 0; n < 26; n++) {
            // Where n is less than 12, a group is left that begins with 23 and has 0 for its n.
            TelegraphHouse x = condensed("aaaaaaaaaaaa", "a b");
            x.hurt(0, 0, 1, n);
            Due.due("n = " + n, x.expands(0), n == 12 ? 1 : 2);
        }
        for (int n = 1; n <= 3; n++) {
            expands("n = " + n, 0, "7", 0, Due.group(23, n, 0, 0, 0));
        }
        for (int n : new int[] {0, 13, 14, 24, 25}) {
            expands("n = " + n, 2, "7", 0, Due.group(23, n, 0, 0, 0));
            expands("n = " + n + " with enough behind it", 2, "7 abcdefghijkl abcdefghijkl", 0, Due.group(23, n, 0, 0, 0));
        }
    }

    private static void letterNotThereTold() {
        Due.sentence("a letter that is not there told otherwise than by 0");
        int looked = 0;
        for (int n = 1; n <= 12; n++) {
            String word = "zzzzzzzzzzzz".substring(0, n);
            for (int i = n; i < 4 * (n / 4) + 3; i++) {
                for (int letter : new int[] {0, 1, 25}) {
                    TelegraphHouse x = condensed(word);
                    x.hurt(0, (i + 1) / 4, (i + 1) % 4 + 1, letter);
                    Due.due("letter " + i + " of " + n + " is " + letter, x.expands(0), letter == 0 ? 1 : 2);
                }
                looked++;
            }
        }
        Due.due("places looked at", looked, 2 + 1 + 3 + 2 + 1 + 3 + 2 + 1 + 3);
    }

    private static void whatBelongsIsMissing() {
        Due.sentence("what belongs to it is missing");
        // The last word has so many groups; n asks for more, for just as many, or for fewer.
        String[] words = {"bcd", "bcdefgh", "bcdefghijkl"};
        for (int g = 0; g < words.length; g++) {
            for (int n = 1; n <= 12; n++) {
                TelegraphHouse x = condensed("7 " + words[g]);
                x.hurt(0, 1, 1, n);
                if (n / 4 > g) {
                    Due.due(words[g] + " with n = " + n, x.expands(0), 2);
                }
                if (n == words[g].length()) {
                    Due.due(words[g] + " with n = " + n, x.expands(0), 1);
                }
            }
        }
        expands("four letters at the end", 2, "7", 0, Due.group(23, 4, 0, 0, 0));
        expands("three letters at the end", 0, "7", 0, Due.group(23, 3, 0, 0, 0));
    }

    private static void whatBelongsWithout23() {
        Due.sentence("or does not begin with 23");
        for (int k = 1; k < 4; k++) {
            for (int lead = 0; lead < 26; lead++) {
                TelegraphHouse x = condensed("bcdefghijklm");
                x.hurt(0, k, 0, lead);
                Due.due("group " + k + " begins with " + lead, x.expands(0), lead == 23 ? 1 : 2);
            }
        }
        TelegraphHouse x = new TelegraphHouse();
        expands("a phrase instead", 2, "abcd", 1, x.sound(0));
        expands("a number instead", 2, "abcd", 1, digits(25, 5));
    }

    private static void failsAheadOfOthers() {
        Due.sentence("1; 0: to others; 2: it fails.");
        expands("others, then it fails", 2, "7 8", 0, digits(25, 6), 1, 1);
        expands("it fails, then others", 2, "7 8", 0, 1, 1, digits(25, 6));
        expands("too many tokens, then it fails", 2, "7 8", 0, 0, 1, 1);
    }

    private static void toOthers() {
        Due.sentence("0: to others");
        TelegraphHouse x = new TelegraphHouse();
        expands("another number", 0, "7", 0, digits(25, 8));
        expands("another word", 0, "at", 0, Due.group(23, 2, 0, 20, 0));
        expands("a shorter word", 0, "at", 0, Due.group(23, 1, 0, 0, 0));
        expands("a word for a number", 0, "7", 0, Due.group(23, 1, 7, 0, 0));
        expands("a number for a word", 0, "h", 0, digits(25, 7));
        expands("a phrase for a word", 0, "at", 0, x.sound(1));
        expands("one token fewer, at the end", 0, "7 a b", 1, Due.group(23, 1, 0, 0, 0));
        expands("one token more, at the end", 0, "7 a", 1, x.sound(0));
        expands("one token fewer, ahead", 0, "a b 7", 0, Due.group(23, 1, 0, 0, 0));
        expands("one token more, ahead", 0, "a 7", 0, x.sound(0));
        expands("turned round", 0, "7 8", 0, digits(25, 8), 1, digits(25, 7));
    }

    /** The tokens alone are compared, not how they are told. */
    private static void toJustItsTokens() {
        Due.sentence("Whether the FORM of a MESSAGE expands to just its TOKENS: 1");
        expands("a phrase, spelled", 1, "7 up", 1, Due.group(23, 2, 20, 15, 0));
        expands("all as it was", 1, "7 8", 0, digits(25, 7), 1, digits(25, 8));
    }

    private static void moreThanTwentyTokens() {
        Due.sentence("0: to others");
        TelegraphHouse x = condensed("up ".repeat(19) + "a", "a b", "up");
        Due.due("twenty groups", x.about(0, 2), 20);
        Due.due("as it was", x.expands(0), 1);
        Due.setGroup(x, 0, 19, x.groupOf(0, 0));
        Due.due("a twenty-first token", x.expands(0), 0);
    }

    /** Each of 80 groups is a token of its own, and each of them is looked at. */
    private static void eightyTokens() {
        Due.sentence("TO EXPAND a FORM, as its GROUPS are then, .. from the first on");
        TelegraphHouse x = condensed("zzzzzzzzzzzz ".repeat(20));
        for (int k = 0; k < 80; k++) {
            Due.setGroup(x, 0, k, digits(25, k));
        }
        Due.due("80 numbers", x.expands(0), 0);
        x.hurt(0, 79, 4, 24);
        Due.due("the last one fails", x.expands(0), 2);
    }

    /** What a longer form left behind the end of a shorter one does not belong to it. */
    private static void behindTheFormsEnd() {
        Due.sentence("what belongs to it is missing");
        TelegraphHouse x = Due.withBook(0, 1, "a b");
        x.book(50, 1);
        x.close(1);
        Due.message(x, "7 a b 8");
        Due.message(x, "7 a b a");
        for (int m = 0; m < 2; m++) {
            Due.due("the longer form of " + m, x.condense(m, 1), 4);
            Due.due("the shorter form of " + m, x.condense(m, 0), 3);
        }
        Due.setGroup(x, 0, 2, digits(24, 1));
        Due.due("24 at the end, where a 25 was behind it", x.expands(0), 2);
        Due.setGroup(x, 1, 2, Due.group(23, 4, 0, 0, 0));
        Due.due("four letters, where a 23 was behind them", x.expands(1), 2);
    }

    private static void expandsRefused() {
        Due.sentence("UNKNOWN; STATE: it has no FORM.");
        TelegraphHouse x = Due.withBook(0, 1);
        Due.message(x, "a");
        for (int m : new int[] {LEAST, -1, 1, 30, MOST}) {
            Due.due("expands(" + m + ")", x.expands(m), UNKNOWN);
        }
        Due.due("no form", x.expands(0), STATE);
        x.condense(0, 0);
        Due.due("a form", x.expands(0), 1);
    }

    private static void aboutBounds() {
        Due.sentence("5 BLOCKS that it is GUARDED by (0). UNKNOWN; OUTSIDE.");
        TelegraphHouse x = condensed("a 7", "a");
        x.guard(0);
        for (int m : new int[] {LEAST, -1, 1, 30, MOST}) {
            Due.due("about(" + m + ", 0)", x.about(m, 0), UNKNOWN);
            Due.due("about(" + m + ", 6)", x.about(m, 6), UNKNOWN);
        }
        for (int what : new int[] {LEAST, -1, 6, 7, MOST}) {
            Due.due("about(0, " + what + ")", x.about(0, what), OUTSIDE);
        }
        int[] want = {2, 2, 2, 0, 2, 1};
        for (int what = 0; what < 6; what++) {
            Due.due("about(0, " + what + ")", x.about(0, what), want[what]);
        }
    }

    private static void aboutWithoutForm() {
        Due.sentence("2 the GROUPS of its FORM (0: none), 3 the BOOK of that (NONE), 4 its PARTS then (0)");
        TelegraphHouse x = Due.withBook(0, 1);
        x.book(0, 1);
        x.close(1);
        Due.message(x, "carriage 7");
        int[] plain = {2, 2, 0, NONE, 0, 0};
        int[] formed = {2, 4, 4, 1, 2, 0};
        for (int what = 0; what < 6; what++) {
            Due.due("no form, " + what, x.about(0, what), plain[what]);
        }
        x.condense(0, 1);
        for (int what = 0; what < 6; what++) {
            Due.due("a form, " + what, x.about(0, what), formed[what]);
        }
    }

    private static void partBounds() {
        Due.sentence("2 the PHRASE's number (else NONE). UNKNOWN: also the PART; OUTSIDE.");
        TelegraphHouse x = Due.withBook(0, 1, "a b");
        Due.message(x, "a b c 7");
        Due.due("no form", x.part(0, 0, 0), UNKNOWN);
        Due.due("no form, ahead of outside", x.part(0, 0, 3), UNKNOWN);
        x.condense(0, 0);
        parts(x, "bounds", phrase(2, 0), word(), number());
        for (int i : new int[] {LEAST, -1, 3, 20, MOST}) {
            Due.due("part " + i, x.part(0, i, 0), UNKNOWN);
            Due.due("part " + i + ", ahead of outside", x.part(0, i, 3), UNKNOWN);
        }
        for (int what : new int[] {LEAST, -1, 3, MOST}) {
            Due.due("what = " + what, x.part(0, 2, what), OUTSIDE);
        }
        for (int m : new int[] {LEAST, -1, 1, MOST}) {
            Due.due("message " + m, x.part(m, 0, 0), UNKNOWN);
        }
    }

    private static void partAsItWasCondensed() {
        Due.sentence("PART i of a FORM, as it was condensed");
        TelegraphHouse x = condensed("a b c 7", "a b");
        for (int k = 0; k < 3; k++) {
            Due.setGroup(x, 0, k, digits(25, 9));
        }
        parts(x, "hurt", phrase(2, 0), word(), number());
    }

    private static void groupBounds() {
        Due.sentence("GROUP k of a FORM, as it is now. UNKNOWN.");
        TelegraphHouse x = Due.withBook(0, 1);
        Due.message(x, "7 8");
        Due.due("no form", x.group(0, 0), UNKNOWN);
        x.condense(0, 0);
        for (int k : new int[] {LEAST, -1, 2, 80, 858993460, MOST}) {
            Due.due("group " + k, x.group(0, k), UNKNOWN);
        }
        for (int m : new int[] {LEAST, -1, 1, MOST}) {
            Due.due("message " + m, x.group(m, 0), UNKNOWN);
        }
        Due.due("group 0", x.group(0, 0), digits(25, 7));
        x.swap(0, 1, 0);
        Due.due("group 1, as it is now", x.group(0, 1), Due.group(0, 25, 0, 0, 8));
    }

    private static void bestBounds() {
        Due.sentence("(closed ones alone); NONE. UNKNOWN.");
        TelegraphHouse x = new TelegraphHouse();
        Due.message(x, "carriage way");
        Due.due("no book", x.best(0), NONE);
        x.book(0, 1);
        Due.phrase(x, 0, "carriage");
        Due.due("an open one", x.best(0), NONE);
        x.book(0, 1);
        x.close(1);
        Due.due("an empty one", x.best(0), 1);
        x.close(0);
        Due.due("the better one", x.best(0), 0);
        for (int m : NO_NUMBERS) {
            Due.due("message " + m, x.best(m), UNKNOWN);
        }
        Due.due("message 1", x.best(1), UNKNOWN);
    }

    private static void bestOfLikeOnes() {
        Due.sentence("The BOOK with which a MESSAGE would have the fewest GROUPS, the least of such");
        TelegraphHouse x = new TelegraphHouse();
        for (int b = 0; b < 3; b++) {
            x.book(b, 1);
        }
        Due.phrase(x, 0, "nothing");
        Due.phrase(x, 1, "way");
        Due.phrase(x, 1, "carriage");
        Due.phrase(x, 2, "carriage");
        Due.message(x, "carriage way");
        Due.message(x, "7 8");
        Due.message(x, "nothing");
        for (int b = 2; b >= 0; b--) {
            x.close(b);
            Due.due("of like ones the least closed one", x.best(1), b);
        }
        // "way" is one group, spelled or a phrase: fewer parts of phrases make no difference.
        Due.due("1 and 2 are alike, 0 has more", x.best(0), 1);
        Due.due("0 has fewer", x.best(2), 0);
        x.condense(0, 0);
        Due.due("its own form does not matter", x.best(0), 1);
        Due.due("nor does best change it", x.about(0, 3), 0);
        x.station();
        x.station();
        x.line(0, 1, 1, 0, 0);
        x.send(0, 0, 1, 0);
        Due.due("nor that it was sent", x.best(0), 1);
    }
}
