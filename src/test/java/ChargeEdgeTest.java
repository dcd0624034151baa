/** Part 5, COUNT and CHARGE, and promise 23: each sentence with a bound has a test of its own. */
public final class ChargeEdgeTest {
    private static final int[] CENTS = {3, 5, 9, 14};

    public static void main(String[] args) {
        lettersByTen();
        digitsByFive();
        roundedUpEach();
        groupsOfAForm();
        fiveWordsAtLeast();
        fiveGroupsAtLeast();
        zoneBounds();
        urgentThreeTimes();
        nightRoundedUp();
        replyPaid();
        urgentByNight();
        unknownMessage();
        Due.end();
    }

    private static TelegraphHouse with(String text) {
        TelegraphHouse x = new TelegraphHouse();
        Due.due("message '" + text + "'", Due.message(x, text), 0);
        return x;
    }

    private static void lettersByTen() {
        Due.sentence("of each WORD its letters / 10 .. rounded up");
        for (int n = 1; n <= 12; n++) {
            Due.due(n + " letters", with("abcdefghijkl".substring(0, n)).about(0, 1), n <= 10 ? 1 : 2);
        }
    }

    private static void digitsByFive() {
        Due.sentence("of each NUMBER its digits / 5, rounded up");
        for (int n = 1; n <= 9; n++) {
            Due.due(n + " digits", with("123456789".substring(0, n)).about(0, 1), n <= 5 ? 1 : 2);
            Due.due(n + " digits with zeros", with("100000000".substring(0, n)).about(0, 1), n <= 5 ? 1 : 2);
            Due.due(n + " nines", with("999999999".substring(0, n)).about(0, 1), n <= 5 ? 1 : 2);
        }
        Due.due("0", with("0").about(0, 1), 1);
    }

    private static void roundedUpEach() {
        Due.sentence("rounded up, together");
        Due.due("three of one letter", with("a b c").about(0, 1), 3);
        Due.due("twenty of one digit", with("1 ".repeat(20)).about(0, 1), 20);
        Due.due("two of eleven letters", with("abcdefghijk abcdefghijk").about(0, 1), 4);
        Due.due("two of six digits", with("123456 123456").about(0, 1), 4);
        Due.due("a word and a number", with("abcdefghijkl 123456789").about(0, 1), 4);
        Due.due("the most", with("abcdefghijkl ".repeat(20)).about(0, 1), 40);
    }

    private static void groupsOfAForm() {
        Due.sentence("COUNT: of a MESSAGE with a FORM its GROUPS; else");
        TelegraphHouse x = Due.withBook(0, 1, "one two three four");
        Due.message(x, "one two three four");
        Due.message(x, "carriage");
        Due.due("four words", x.about(0, 1), 4);
        Due.due("one word", x.about(1, 1), 1);
        x.condense(0, 0);
        x.condense(1, 0);
        Due.due("one group", x.about(0, 1), 1);
        Due.due("three groups", x.about(1, 1), 3);
    }

    private static void fiveWordsAtLeast() {
        Due.sentence("CHARGE, in cents: 5 words at least, else the COUNT");
        for (int n = 1; n <= 20; n++) {
            TelegraphHouse x = with("a ".repeat(n));
            for (int zone = 0; zone < 4; zone++) {
                int words = n < 5 ? 5 : n;
                Due.due(n + " words, zone " + zone, x.charge(0, zone, false, false, false), words * CENTS[zone]);
            }
        }
        Due.due("forty", with("abcdefghijkl ".repeat(20)).charge(0, 3, false, false, false), 560);
    }

    private static void fiveGroupsAtLeast() {
        Due.sentence("5 words at least, else the COUNT");
        for (int n = 1; n <= 7; n++) {
            TelegraphHouse x = Due.withBook(0, 1, "a b");
            Due.message(x, "a b ".repeat(n));
            x.condense(0, 0);
            Due.due(n + " groups", x.charge(0, 2, false, false, false), 9 * Math.max(5, n));
        }
        TelegraphHouse x = Due.withBook(0, 1);
        Due.message(x, "zzzzzzzzzzzz ".repeat(20));
        x.condense(0, 0);
        Due.due("80 groups", x.charge(0, 3, true, false, true), 80 * 14 * 3 + 140);
    }

    private static void zoneBounds() {
        Due.sentence("times 3, 5, 9, 14 (ZONE 0 .. 3)");
        TelegraphHouse x = with("a b c d e f");
        for (int zone : new int[] {Integer.MIN_VALUE, -1, 4, 5, Integer.MAX_VALUE}) {
            Due.due("zone " + zone, x.charge(0, zone, false, false, false), TelegraphHouse.OUTSIDE);
            Due.due("zone " + zone + ", ahead of state", x.charge(0, zone, true, true, true), TelegraphHouse.OUTSIDE);
        }
        int[] want = {18, 30, 54, 84};
        for (int zone = 0; zone < 4; zone++) {
            Due.due("zone " + zone, x.charge(0, zone, false, false, false), want[zone]);
        }
    }

    private static void urgentThreeTimes() {
        Due.sentence("urgent: three times that");
        TelegraphHouse x = with("a b c d e f");
        int[] want = {54, 90, 162, 252};
        for (int zone = 0; zone < 4; zone++) {
            Due.due("zone " + zone, x.charge(0, zone, true, false, false), want[zone]);
        }
        Due.due("of 5 words at least", with("a").charge(0, 0, true, false, false), 45);
    }

    private static void nightRoundedUp() {
        Due.sentence("by night: half of that, rounded up");
        TelegraphHouse odd = with("a b c d e");
        TelegraphHouse even = with("a b c d e f");
        int[] ofOdd = {8, 13, 23, 35};
        int[] ofEven = {9, 15, 27, 42};
        for (int zone = 0; zone < 4; zone++) {
            Due.due("5 words, zone " + zone, odd.charge(0, zone, false, true, false), ofOdd[zone]);
            Due.due("6 words, zone " + zone, even.charge(0, zone, false, true, false), ofEven[zone]);
        }
    }

    /** The reply is neither three times as dear nor half as dear. */
    private static void replyPaid() {
        Due.sentence("with a reply paid: ten times the ZONE's cents more");
        TelegraphHouse x = with("a b c d e f g");
        int[] plain = {21 + 30, 35 + 50, 63 + 90, 98 + 140};
        int[] urgent = {63 + 30, 105 + 50, 189 + 90, 294 + 140};
        int[] night = {11 + 30, 18 + 50, 32 + 90, 49 + 140};
        for (int zone = 0; zone < 4; zone++) {
            Due.due("reply, zone " + zone, x.charge(0, zone, false, false, true), plain[zone]);
            Due.due("urgent, reply, zone " + zone, x.charge(0, zone, true, false, true), urgent[zone]);
            Due.due("by night, reply, zone " + zone, x.charge(0, zone, false, true, true), night[zone]);
        }
    }

    private static void urgentByNight() {
        Due.sentence("STATE: urgent and by night");
        TelegraphHouse x = with("a");
        for (int zone = 0; zone < 4; zone++) {
            Due.due("zone " + zone, x.charge(0, zone, true, true, false), TelegraphHouse.STATE);
            Due.due("with a reply, zone " + zone, x.charge(0, zone, true, true, true), TelegraphHouse.STATE);
        }
    }

    private static void unknownMessage() {
        Due.sentence("The CHARGE. UNKNOWN; OUTSIDE: ZONE; STATE: urgent and by night.");
        TelegraphHouse x = with("a");
        for (int m : new int[] {Integer.MIN_VALUE, -1, 1, 30, Integer.MAX_VALUE}) {
            Due.due("message " + m, x.charge(m, 0, false, false, false), TelegraphHouse.UNKNOWN);
            Due.due("message " + m + ", ahead of all", x.charge(m, 4, true, true, true), TelegraphHouse.UNKNOWN);
        }
        Due.due("message 0", x.charge(0, 0, false, false, false), 15);
    }
}
