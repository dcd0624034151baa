/** Promise 23: charge. */
public final class ChargeTest {
    public static void main(String[] args) {
        TelegraphHouse x = Due.withBook(0, 1, "one two three four");
        Due.message(x, "one two three four");
        Due.message(x, "a b c d e f g");
        Due.message(x, "a b c d e");
        int[] cents = {3, 5, 9, 14};
        for (int zone = 0; zone < 4; zone++) {
            int c = cents[zone];
            Due.due("5 at least", x.charge(0, zone, false, false, false), 5 * c);
            Due.due("5", x.charge(2, zone, false, false, false), 5 * c);
            Due.due("7", x.charge(1, zone, false, false, false), 7 * c);
            Due.due("urgent", x.charge(1, zone, true, false, false), 21 * c);
            Due.due("by night", x.charge(1, zone, false, true, false), (7 * c + 1) / 2);
            Due.due("reply", x.charge(1, zone, false, false, true), 17 * c);
            Due.due("urgent, reply", x.charge(1, zone, true, false, true), 31 * c);
            Due.due("by night, reply", x.charge(1, zone, false, true, true), (7 * c + 1) / 2 + 10 * c);
            Due.due("both", x.charge(1, zone, true, true, false), TelegraphHouse.STATE);
        }
        Due.due("zone below", x.charge(0, -1, false, false, false), TelegraphHouse.OUTSIDE);
        Due.due("zone above", x.charge(0, 4, false, false, false), TelegraphHouse.OUTSIDE);
        Due.due("outside ahead of state", x.charge(0, 4, true, true, false), TelegraphHouse.OUTSIDE);
        Due.due("unknown ahead of all", x.charge(3, 4, true, true, false), TelegraphHouse.UNKNOWN);
        Due.due("unknown below", x.charge(-1, 0, false, false, false), TelegraphHouse.UNKNOWN);
        ofForms(x);
        Due.end();
    }

    /** With a form its groups are counted. */
    private static void ofForms(TelegraphHouse x) {
        Due.message(x, "carriage carriage carriage");
        Due.due("three words", x.charge(3, 0, false, false, false), 15);
        x.condense(3, 0);
        Due.due("nine groups", x.charge(3, 0, false, false, false), 27);
        x.condense(1, 0);
        Due.due("seven groups", x.charge(1, 3, false, false, false), 98);
    }
}
