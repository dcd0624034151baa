/** Promises 1 to 4: a new object, feed, cut, message. */
public final class TapeTest {
    public static void main(String[] args) {
        newObject();
        feeding();
        feedingFull();
        cutting();
        messages();
        faults();
        messagesFull();
        Due.end();
    }

    private static void newObject() {
        TelegraphHouse x = new TelegraphHouse();
        for (int what = 0; what <= 8; what++) {
            Due.due("new count(" + what + ")", x.count(what), 0);
        }
        Due.due("new clock", x.clock(), 0);
        Due.due("new about", x.about(0, 0), TelegraphHouse.UNKNOWN);
        Due.due("new close", x.close(0), TelegraphHouse.UNKNOWN);
        Due.due("new ledger", x.ledger(0, 0), TelegraphHouse.UNKNOWN);
        Due.due("new lose", x.lose(0), TelegraphHouse.UNKNOWN);
    }

    private static void feeding() {
        TelegraphHouse x = new TelegraphHouse();
        Due.due("feed(0)", x.feed(0), 0);
        Due.due("feed one byte", x.feed('a'), 1);
        Due.due("a 0 ends the bytes", x.feed('b' | 'c' << 16), 2);
        Due.due("a 0 at the lowest", x.feed(-256L), 2);
        Due.due("eight bytes", x.feed(0x6867666564636261L), 10);
        Due.due("the lowest comes first", x.message(), 0);
        Due.due("one token", x.about(0, 0), 1);
        Due.due("bytes above 127 are kept", x.feed(-1L), 8);
        Due.due("and are a fault", x.message(), -100);
        x.cut(0);
        // "abz" and then a blank: were the bytes turned round, the blank would be the first.
        x.feed('a' | 'b' << 8 | 'z' << 16 | ' ' << 24);
        x.feed('!');
        Due.due("order of bytes", x.message(), -104);
    }

    private static void feedingFull() {
        TelegraphHouse x = new TelegraphHouse();
        for (int i = 0; i < 37; i++) {
            x.feed(0x2020202020202020L);
        }
        Due.due("296 bytes", x.count(4), 296);
        Due.due("8 more are too many", x.feed(0x2020202020202020L), TelegraphHouse.FULL);
        Due.due("5 more are too many", x.feed(0x2020202020L), TelegraphHouse.FULL);
        Due.due("nothing of it came", x.count(4), 296);
        Due.due("4 more", x.feed(0x20202020L), 300);
        Due.due("none more", x.feed(0), 300);
        Due.due("one more", x.feed(' '), TelegraphHouse.FULL);
        Due.due("300 blanks", x.message(), -400);
    }

    private static void cutting() {
        TelegraphHouse x = new TelegraphHouse();
        Due.due("cut(0) of none", x.cut(0), 0);
        Due.due("cut(1) of none", x.cut(1), TelegraphHouse.OUTSIDE);
        Due.feed(x, "abcdefghij");
        Due.due("cut(-1)", x.cut(-1), TelegraphHouse.OUTSIDE);
        Due.due("cut(11)", x.cut(11), TelegraphHouse.OUTSIDE);
        Due.due("cut least int", x.cut(Integer.MIN_VALUE), TelegraphHouse.OUTSIDE);
        Due.due("cut(10)", x.cut(10), 0);
        Due.due("cut(4)", x.cut(4), 6);
        Due.due("4 stay", x.count(4), 4);
        Due.due("what was cut is gone", Due.feed(x, " 7"), 6);
        Due.due("message", x.message(), 0);
        Due.due("two tokens", x.about(0, 0), 2);
    }

    private static void messages() {
        TelegraphHouse x = new TelegraphHouse();
        Due.due("message 0", Due.message(x, "abc 12"), 0);
        Due.due("the tape is empty then", x.count(4), 0);
        Due.due("blanks ahead and behind", Due.message(x, "   a   0  zz  "), 1);
        Due.due("tokens 0", x.about(0, 0), 2);
        Due.due("tokens 1", x.about(1, 0), 3);
        Due.due("the longest tokens", Due.message(x, "abcdefghijkl 999999999"), 2);
        Due.due("twenty", Due.message(x, "a b c d e f g h i j k l m n o p q r s t "), 3);
        Due.due("tokens 3", x.about(3, 0), 20);
        StringBuilder longest = new StringBuilder();
        for (int i = 0; i < 20; i++) {
            longest.append("abcdefghijklmn".substring(0, 12)).append("   ");
        }
        Due.due("300 bytes", Due.message(x, longest.toString()), 4);
        Due.due("tokens 4", x.about(4, 0), 20);
        Due.due("five messages", x.count(1), 5);
    }

    private static void faults() {
        fault("", 0);
        fault("   ", 3);
        fault("A", 0);
        fault("ab_c", 2);
        fault("ab\t", 2);
        fault("`", 0);
        fault("{", 0);
        fault("/", 0);
        fault(":", 0);
        fault("abcdefghijklm", 12);
        fault("  abcdefghijklm ", 14);
        fault("1234567890", 9);
        fault("00", 1);
        fault("a 01", 3);
        fault("1a", 1);
        fault("a1", 1);
        fault("0a", 1);
        fault("abcdefghijkl1", 12);
        fault("a b c d e f g h i j k l m n o p q r s t u", 40);
        fault("a b c d e f g h i j k l m n o p q r s t 0 !", 40);
        fault("a b c d e f g h i j k l m n o p q r s t1", 39);
        fault("a b c d e f g h i j k l m n o p q r s t  !", 41);
    }

    private static void fault(String text, int place) {
        TelegraphHouse x = new TelegraphHouse();
        int n = Due.feed(x, text);
        Due.due("message of '" + text + "'", x.message(), -100 - place);
        Due.due("its tape stays", x.count(4), n);
        Due.due("there is no message", x.count(1), 0);
    }

    private static void messagesFull() {
        TelegraphHouse x = new TelegraphHouse();
        for (int i = 0; i < 30; i++) {
            Due.due("message " + i, Due.message(x, "a"), i);
        }
        Due.due("full, ahead of a fault", x.message(), TelegraphHouse.FULL);
        Due.feed(x, "a");
        Due.due("full", x.message(), TelegraphHouse.FULL);
        Due.due("the tape stays", x.count(4), 1);
        Due.due("thirty", x.count(1), 30);
    }
}
