/** Part 1, THE TAPE, and promises 1 to 4: each sentence with a bound in it has a test of its own. */
public final class TapeEdgeTest {
    private static final int UNKNOWN = TelegraphHouse.UNKNOWN;
    private static final int OUTSIDE = TelegraphHouse.OUTSIDE;
    private static final int FULL = TelegraphHouse.FULL;
    private static final int LEAST = Integer.MIN_VALUE;
    private static final int MOST = Integer.MAX_VALUE;
    private static final String ALPHABET = "abcdefghijklmnopqrstuvwxyz";

    public static void main(String[] args) {
        newObjectIsEmpty();
        newObjectKnowsNothing();
        objectsAreApart();
        lowestByteFirst();
        zeroEndsTheBytes();
        bytesAbove127();
        tapeOf300();
        fullCountsWhatComes();
        the300thByteCounts();
        cutBounds();
        cutKeepsTheFirst();
        wordsOf1To12();
        aThirteenthLetter();
        numbersOf1To9();
        aTenthDigit();
        noZeroAhead();
        everyByteAlone();
        everyByteBehindALetter();
        everyByteBehindADigit();
        oneBlankOrMore();
        blanksAsOneLikes();
        tokens1To20();
        aTokenTooMany();
        theFirstFault();
        noTokenAtAll();
        messageEmptiesTheTape();
        faultKeepsTheTape();
        messageFull();
        Due.end();
    }

    private static String repeat(String s, int n) {
        return s.repeat(n);
    }

    private static TelegraphHouse fed(String text) {
        TelegraphHouse x = new TelegraphHouse();
        Due.feed(x, text);
        return x;
    }

    private static void right(String text, int tokens) {
        TelegraphHouse x = fed(text);
        Due.due("message of '" + text + "'", x.message(), 0);
        Due.due("tokens of '" + text + "'", x.about(0, 0), tokens);
        Due.due("bytes behind '" + text + "'", x.count(4), 0);
    }

    private static void fault(String text, int place) {
        TelegraphHouse x = fed(text);
        Due.due("message of '" + text + "'", x.message(), -100 - place);
        Due.due("bytes of '" + text + "'", x.count(4), text.length());
        Due.due("messages", x.count(1), 0);
    }

    private static void newObjectIsEmpty() {
        Due.sentence("No BOOKS, MESSAGES, STATIONS; THE TAPE is empty.");
        TelegraphHouse x = new TelegraphHouse();
        for (int what = 0; what <= 8; what++) {
            Due.due("count(" + what + ")", x.count(what), 0);
        }
        Due.due("clock", x.clock(), 0);
        Due.due("first book", x.book(0, 1), 0);
        Due.due("first station", x.station(), 0);
        Due.due("first message", Due.message(x, "a"), 0);
    }

    private static void newObjectKnowsNothing() {
        Due.sentence("No BOOKS, MESSAGES, STATIONS");
        TelegraphHouse x = new TelegraphHouse();
        int[] answers = {
            x.phrase(0), x.close(0), x.groupOf(0, 0), x.distance(0), x.about(0, 0), x.condense(0, 0),
            x.part(0, 0, 0), x.group(0, 0), x.expands(0), x.best(0), x.guard(0), x.sum(0, 0, 0),
            x.hurt(0, 0, 0, 0), x.swap(0, 0, 0), x.mend(0), x.mended(0, 0),
            x.charge(0, 0, false, false, false), x.line(0, 0, 1, 0, 0), x.path(0, 0, 0), x.far(0, 0),
            x.send(0, 0, 0, 0), x.where(0, 0), x.queue(0, 0), x.lose(0), x.ask(0), x.ledger(0, 0),
        };
        for (int i = 0; i < answers.length; i++) {
            Due.due("call " + i + " of a new object", answers[i], UNKNOWN);
        }
        Due.due("message", x.message(), -100);
        Due.due("sound", x.sound(0), 0);
        Due.due("step", x.step(1), 0);
    }

    private static void objectsAreApart() {
        Due.sentence("A new object");
        TelegraphHouse x = fed("ab");
        TelegraphHouse y = new TelegraphHouse();
        Due.due("the other's tape", y.count(4), 0);
        x.book(0, 1);
        x.message();
        x.station();
        x.step(7);
        Due.due("the other's clock", y.clock(), 0);
        for (int what = 0; what < 3; what++) {
            Due.due("the other's count(" + what + ")", y.count(what), 0);
        }
    }

    private static void lowestByteFirst() {
        Due.sentence("Eight bytes come behind THE TAPE, the lowest of w first");
        for (int i = 0; i < 8; i++) {
            String text = "abcdefgh".substring(0, i) + "!" + "abcdefgh".substring(i + 1);
            TelegraphHouse x = new TelegraphHouse();
            Due.due("feed '" + text + "'", x.feed(Due.packed(text, 0)), 8);
            Due.due("fault of '" + text + "'", x.message(), -100 - i);
            Due.due("feed behind it", x.feed(Due.packed(text, 0)), 16);
        }
        TelegraphHouse x = fed("abcd ");
        Due.due("behind what is there", x.feed('?'), 6);
        Due.due("its place", x.message(), -105);
    }

    private static void zeroEndsTheBytes() {
        Due.sentence("as far as they are not 0 (a 0 ends them)");
        for (int i = 0; i < 8; i++) {
            long w = 0x6161616161616161L & ~(255L << 8 * i);
            TelegraphHouse x = new TelegraphHouse();
            Due.due("a 0 at byte " + i, x.feed(w), i);
            Due.due("bytes then", x.count(4), i);
            Due.due("a byte more", x.feed('!'), i + 1);
            Due.due("its place", x.message(), -100 - i);
        }
        TelegraphHouse x = fed("abc");
        Due.due("nothing comes", x.feed(0), 3);
        Due.due("nothing of it comes", x.feed(-256), 3);
    }

    private static void bytesAbove127() {
        Due.sentence("Eight bytes come behind THE TAPE");
        TelegraphHouse x = new TelegraphHouse();
        Due.due("eight of 255", x.feed(-1), 8);
        Due.due("the first is a fault", x.message(), -100);
        TelegraphHouse y = new TelegraphHouse();
        Due.due("the highest byte is 128", y.feed(0x8061616161616161L), 8);
        Due.due("it is the last one", y.message(), -107);
        TelegraphHouse z = new TelegraphHouse();
        Due.due("the highest byte alone", z.feed(Long.MIN_VALUE), 0);
    }

    private static void tapeOf300() {
        Due.sentence("THE TAPE has 300 bytes at most");
        for (int more = 1; more <= 8; more++) {
            String last = repeat("a", more);
            TelegraphHouse x = fed(repeat(" ", 299 - more));
            Due.due(more + " bytes up to 299", Due.feed(x, last), 299);
            TelegraphHouse y = fed(repeat(" ", 300 - more));
            Due.due(more + " bytes up to 300", Due.feed(y, last), 300);
            Due.due("one byte more than 300", y.feed('a'), FULL);
            Due.due("300 stay", y.count(4), 300);
            TelegraphHouse z = fed(repeat(" ", 301 - more));
            Due.due(more + " bytes up to 301", Due.feed(z, last), FULL);
            Due.due("none of them came", z.count(4), 301 - more);
            Due.due("they are blanks still", z.message(), -100 - (301 - more));
        }
    }

    private static void fullCountsWhatComes() {
        Due.sentence("as far as they are not 0 (a 0 ends them): how many it has. FULL.");
        TelegraphHouse x = fed(repeat(" ", 296));
        Due.due("eight more", x.feed(-1), FULL);
        Due.due("four, then a 0, then more", x.feed(0x6161610061616161L), 300);
        Due.due("none more", x.feed(0), 300);
        Due.due("a 0 ahead of seven", x.feed(-256), 300);
        Due.due("one more", x.feed(1), FULL);
        Due.due("they are one token", x.message(), 0);
        Due.due("the tape is free again", x.feed(-1), 8);
    }

    private static void the300thByteCounts() {
        Due.sentence("THE TAPE has 300 bytes at most");
        right(repeat(" ", 299) + "a", 1);
        fault(repeat(" ", 299) + "!", 299);
        right("a" + repeat(" ", 298) + "b", 2);
        right(repeat("abcdefghijkl   ", 20), 20);
        right(repeat("   123456789   ", 20), 20);
    }

    private static void cutBounds() {
        Due.sentence("THE TAPE keeps its first n bytes: how many went. OUTSIDE.");
        for (int length : new int[] {0, 1, 10, 299, 300}) {
            for (int n : new int[] {LEAST, -1, length + 1, 301, MOST}) {
                TelegraphHouse x = fed(repeat("a ", 150).substring(0, length));
                Due.due("cut(" + n + ") of " + length, x.cut(n), OUTSIDE);
                Due.due("all stay", x.count(4), length);
            }
            for (int n : new int[] {0, 1, length - 1, length}) {
                if (n >= 0 && n <= length) {
                    TelegraphHouse x = fed(repeat("a ", 150).substring(0, length));
                    Due.due("cut(" + n + ") of " + length, x.cut(n), length - n);
                    Due.due("so many stay", x.count(4), n);
                    Due.due("cut again", x.cut(n), 0);
                    Due.due("cut one more", x.cut(n + 1), OUTSIDE);
                }
            }
        }
    }

    private static void cutKeepsTheFirst() {
        Due.sentence("THE TAPE keeps its first n bytes");
        TelegraphHouse x = fed("abc!de");
        x.cut(3);
        Due.due("the fault went", x.message(), 0);
        TelegraphHouse y = fed("!abc");
        y.cut(1);
        Due.due("the fault stays", y.message(), -100);
        TelegraphHouse z = fed("abcd");
        z.cut(2);
        Due.due("what comes then is behind them", Due.feed(z, " 12"), 5);
        Due.due("two tokens", z.message(), 0);
        Due.due("word and number", z.about(0, 0), 2);
        Due.due("what went does not come again", z.feed('b'), 1);
    }

    private static void wordsOf1To12() {
        Due.sentence("WORDS (1 to 12 letters a .. z)");
        for (int n = 1; n <= 12; n++) {
            right(ALPHABET.substring(26 - n), 1);
            right(repeat("z", n) + " " + repeat("a", n), 2);
        }
    }

    private static void aThirteenthLetter() {
        Due.sentence("a thirteenth letter");
        fault("abcdefghijklm", 12);
        fault("abcdefghijklmn", 12);
        fault(repeat("z", 13) + " !", 12);
        fault("   " + repeat("q", 13), 15);
        fault("12 " + repeat("q", 12) + " " + repeat("q", 13), 28);
        fault(repeat(" ", 287) + repeat("x", 13), 299);
        right(repeat(" ", 288) + repeat("x", 12), 1);
    }

    private static void numbersOf1To9() {
        Due.sentence("NUMBERS (1 to 9 digits, no 0 ahead of another digit)");
        for (int n = 1; n <= 9; n++) {
            right("987654321".substring(0, n), 1);
            right("100000000".substring(0, n) + " " + "999999999".substring(0, n), 2);
        }
        right("0", 1);
        right("0 0 0", 3);
    }

    private static void aTenthDigit() {
        Due.sentence("a tenth digit");
        fault("1234567890", 9);
        fault("12345678901", 9);
        fault("1000000000", 9);
        fault("  9999999999", 11);
        fault("123456789 1234567891", 19);
        fault(repeat(" ", 290) + "1234567890", 299);
        right(repeat(" ", 291) + "123456789", 1);
    }

    private static void noZeroAhead() {
        Due.sentence("a digit behind a 0 that begins");
        for (char d = '0'; d <= '9'; d++) {
            fault("0" + d, 1);
            fault("a 0" + d, 3);
            fault("7 0" + d + " !", 3);
            right("1" + d, 1);
            right("" + d, 1);
            right("0 " + d, 2);
        }
        right("10", 1);
        right("100200300", 1);
        fault("001", 1);
    }

    private static boolean isLetter(int b) {
        return b >= 97 && b <= 122;
    }

    private static boolean isDigit(int b) {
        return b >= 48 && b <= 57;
    }

    private static void everyByteAlone() {
        Due.sentence("the first byte that cannot be as told: one that is none of these");
        for (int b = 1; b < 256; b++) {
            String s = String.valueOf((char) b);
            if (isLetter(b) || isDigit(b)) {
                right(s, 1);
                right("  " + s, 1);
            } else if (b == 32) {
                fault(s, 1);
                fault("  " + s, 3);
            } else {
                fault(s, 0);
                fault("  " + s, 2);
                fault("a 1 " + s, 4);
            }
        }
    }

    private static void everyByteBehindALetter() {
        Due.sentence("a digit behind a letter, without a blank");
        for (int b = 1; b < 256; b++) {
            String text = "z" + (char) b;
            if (isLetter(b) || b == 32) {
                right(text, 1);
            } else {
                fault(text, 1);
            }
        }
        fault("abcdefghijkl5", 12);
        fault("a0", 1);
        right("a 0", 2);
    }

    private static void everyByteBehindADigit() {
        Due.sentence("a letter behind a digit .. without a blank");
        for (int b = 1; b < 256; b++) {
            String text = "7" + (char) b;
            if (isDigit(b) || b == 32) {
                right(text, 1);
            } else {
                fault(text, 1);
            }
        }
        fault("0a", 1);
        fault("123456789a", 9);
        right("0 a", 2);
    }

    private static void oneBlankOrMore() {
        Due.sentence("with one blank (32) or more between any two");
        String[] pairs = {"a b", "a 1", "1 a", "1 2", "0 0"};
        for (String p : pairs) {
            right(p, 2);
            right(p.replace(" ", "  "), 2);
            right(p.replace(" ", repeat(" ", 298)), 2);
        }
        right("ab", 1);
        right("12", 1);
        for (char other : new char[] {9, 10, 13, 31, 33, 160}) {
            fault("a" + other + "b", 1);
        }
    }

    private static void blanksAsOneLikes() {
        Due.sentence("blanks ahead and behind as one likes");
        for (int n : new int[] {0, 1, 2, 7, 8, 299}) {
            right(repeat(" ", n) + "a", 1);
            right("a" + repeat(" ", n), 1);
            right(repeat(" ", n / 2) + "5" + repeat(" ", n - n / 2), 1);
        }
    }

    private static void tokens1To20() {
        Due.sentence("1 to 20 TOKENS");
        for (int n = 1; n <= 20; n++) {
            right(repeat("a ", n), n);
            right(repeat(" 0", n), n);
            right((repeat("a 1 ", 10)).substring(0, 2 * n - 1), n);
        }
        right(repeat("a ", 20) + repeat(" ", 260), 20);
    }

    private static void aTokenTooMany() {
        Due.sentence("the first one of a TOKEN too many");
        fault(repeat("a ", 20) + "b", 40);
        fault(repeat("a ", 20) + "bcd", 40);
        fault(repeat("a ", 20) + "7", 40);
        fault(repeat("1 ", 20) + "0", 40);
        fault(repeat("1 ", 20) + "!", 40);
        fault(repeat("a ", 20) + repeat(" ", 259) + "z", 299);
        fault(repeat("a ", 21), 40);
        fault(repeat("a ", 22), 40);
        fault(repeat("abcdefghijkl ", 20) + "b", 260);
        fault(repeat("a ", 19) + "aa1", 40);
        fault(repeat("a ", 19) + repeat("a", 13), 50);
    }

    private static void theFirstFault() {
        Due.sentence("ITS FAULT is at the first byte that cannot be as told");
        fault("!?", 0);
        fault("a !?", 2);
        fault("a1!", 1);
        fault("1a!", 1);
        fault("00!", 1);
        fault("00 a1", 1);
        fault("abcdefghijklm1!", 12);
        fault("1234567890a!", 9);
        fault("a b! c d1", 3);
        fault("A", 0);
        fault("aB", 1);
    }

    private static void noTokenAtAll() {
        Due.sentence("or, if there is no TOKEN, the end (how many bytes it has)");
        for (int n : new int[] {0, 1, 2, 7, 8, 9, 299, 300}) {
            fault(repeat(" ", n), n);
        }
        fault("  !", 2);
    }

    private static void messageEmptiesTheTape() {
        Due.sentence("THE TAPE is a MESSAGE, and empty then: its number, from 0 on.");
        TelegraphHouse x = new TelegraphHouse();
        for (int m = 0; m < 30; m++) {
            Due.due("message " + m, Due.message(x, repeat("a ", 1 + m % 20)), m);
            Due.due("bytes behind it", x.count(4), 0);
            Due.due("messages", x.count(1), m + 1);
        }
        for (int m = 0; m < 30; m++) {
            Due.due("tokens of " + m, x.about(m, 0), 1 + m % 20);
        }
        TelegraphHouse y = fed("abcd");
        y.message();
        Due.due("empty: no token", y.message(), -100);
    }

    private static void faultKeepsTheTape() {
        Due.sentence("-100 less the place of ITS FAULT (THE TAPE stays)");
        TelegraphHouse x = fed("ab 12 !");
        Due.due("fault", x.message(), -106);
        Due.due("the same again", x.message(), -106);
        Due.due("cut it off", x.cut(6), 1);
        Due.due("what stays is right", x.message(), 0);
        Due.due("two tokens", x.about(0, 0), 2);
        TelegraphHouse y = fed("  ");
        Due.due("no token", y.message(), -102);
        Due.due("one comes", y.feed('q'), 3);
        Due.due("it is number 0", y.message(), 0);
    }

    private static void messageFull() {
        Due.sentence("FULL: 30 (ahead of a FAULT)");
        TelegraphHouse x = new TelegraphHouse();
        for (int m = 0; m < 29; m++) {
            Due.message(x, "a");
        }
        Due.due("29: a fault", x.message(), -100);
        Due.due("the thirtieth", Due.message(x, "a"), 29);
        Due.due("full, ahead of no token", x.message(), FULL);
        x.feed('!');
        Due.due("full, ahead of a fault", x.message(), FULL);
        x.cut(0);
        Due.feed(x, "good");
        Due.due("full", x.message(), FULL);
        Due.due("the tape stays", x.count(4), 4);
        Due.due("thirty", x.count(1), 30);
        Due.due("no message 30", x.about(30, 0), UNKNOWN);
        x.book(0, 1);
        Due.due("the tape is still a phrase", x.phrase(0), 1);
    }
}
