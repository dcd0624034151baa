import java.util.ArrayList;
import java.util.Arrays;
import java.util.List;
import java.util.Map;
import java.util.TreeMap;

/**
 * 'Terms': the refusals, which of several it is, and that what is refused changes nothing. For the
 * last one a house that refused a call and one that was never asked are compared by a long row of
 * calls, which also change them.
 */
public final class RefusalTest {
    private static final int UNKNOWN = TelegraphHouse.UNKNOWN;
    private static final int OUTSIDE = TelegraphHouse.OUTSIDE;
    private static final int STATE = TelegraphHouse.STATE;
    private static final int FULL = TelegraphHouse.FULL;

    /**
     * Book 0 is closed, 1 is open. Message 0 has no form, 1 has one, 2 is guarded and was mended; 3
     * waits, 4 runs, 5 has come, 6 is lost. No line goes to station 3.
     */
    private static final List<String> RICH = Script.calls(List.of(
            "book 0 1", "tape a b", "phrase 0", "tape up", "phrase 0", "close 0",
            "book 100 3", "tape stop", "phrase 1",
            "tape carriage way 7", "message", "tape a b carriage 9", "message",
            "tape 7 8 9 10 11 12 13 14 15", "message", "tape up 5", "message", "tape up 5", "message",
            "tape up 5", "message", "tape up 5", "message",
            "condense 1 0", "condense 2 0", "guard 2", "hurt 2 0 4 9", "mend 2", "hurt 2 8 1 3",
            "station", "station", "station", "station", "line 0 1 5 0 0", "line 1 2 7 0 0",
            "lose 0", "send 6 0 1 0", "step 6", "send 5 0 1 0", "step 6",
            "send 4 1 2 1", "send 3 1 2 0", "step 1", "lose 1", "tape stop press"));

    private static final List<String> FULL_HOUSE = Script.calls(fullHouse());
    private static final List<String> RICH_PROBE = Script.calls(richProbe());
    private static final List<String> FULL_PROBE = Script.calls(fullProbe());

    private static final Map<String, Integer> REFUSED = new TreeMap<>();

    public static void main(String[] args) {
        callsAreNotTooMany();
        housesAreAsTold();
        ofTheTape();
        ofBooks();
        ofMessages();
        ofSums();
        ofTheNet();
        ofAFullHouse();
        everyRefusalOfTheFace();
        everyNumber();
        Due.end();
    }

    /** All there may be of books, phrases, messages, stations and lines; a minute is left, 4 bytes are. */
    private static List<String> fullHouse() {
        List<String> rows = new ArrayList<>(List.of("book 0 1", "book 10 2", "book 20 3"));
        for (int k = 0; k < 30; k++) {
            rows.addAll(List.of("tape w" + (char) ('a' + k % 26) + (char) ('a' + k / 26), "phrase 0"));
        }
        rows.addAll(List.of("tape x", "phrase 1", "close 1"));
        for (int m = 0; m < 30; m++) {
            rows.addAll(List.of("tape a", "message"));
        }
        for (int s = 0; s < 8; s++) {
            rows.add("station");
        }
        for (int l = 0; l < 12; l++) {
            rows.add("line " + l % 7 + " " + (l % 7 + 1) + " 5 0 0");
        }
        rows.addAll(List.of("condense 0 1", "guard 0", "send 1 0 7 2", "lose 6"));
        for (int i = 0; i < 19; i++) {
            rows.add("step 300");
        }
        rows.addAll(List.of("step 294", "send 2 0 1 0", "step 5", "tape zz" + " ".repeat(294)));
        return rows;
    }

    /** What can be asked of the rich house, and then calls that change it. */
    private static List<String> richProbe() {
        List<String> rows = new ArrayList<>();
        for (int what = 0; what < 9; what++) {
            rows.add("count " + what);
        }
        rows.add("clock");
        for (int b = 0; b < 3; b++) {
            rows.addAll(List.of("groupOf " + b + " 0", "groupOf " + b + " 1", "groupOf " + b + " 2", "distance " + b));
        }
        for (int m = 0; m < 7; m++) {
            for (int what = 0; what < 6; what++) {
                rows.add("about " + m + " " + what);
            }
            for (int what = 0; what < 4; what++) {
                rows.add("where " + m + " " + what);
            }
            for (int k = 0; k < 3; k++) {
                rows.addAll(List.of("part " + m + " " + k + " 0", "part " + m + " " + k + " 1", "group " + m + " " + k));
            }
            rows.addAll(List.of("expands " + m, "best " + m, "charge " + m + " 3 false true true"));
        }
        for (int k = 0; k < 10; k++) {
            rows.add("group 2 " + k);
        }
        for (int block = 0; block < 3; block++) {
            rows.addAll(List.of("sum 2 " + block + " 0", "sum 2 " + block + " 1", "mended 2 " + block));
        }
        for (int s = 0; s < 4; s++) {
            for (int what = 0; what < 4; what++) {
                rows.add("ledger " + s + " " + what);
            }
            rows.addAll(List.of("queue " + s + " 0", "queue " + s + " 1", "path 0 2 " + s, "far " + s + " 0"));
        }
        rows.addAll(List.of("mend 2", "group 2 0", "group 2 8", "mended 2 1", "message", "about 7 0",
                "condense 7 0", "group 7 0", "group 7 1", "group 7 2", "tape further", "phrase 1", "close 1",
                "groupOf 1 0", "groupOf 1 1", "groupOf 1 2", "line 0 3 9 1 2", "station", "book 5 5",
                "lose 0", "lose 1", "lose 2", "step 3", "where 3 0", "where 4 0", "step 10", "ask 1", "ask 2",
                "queue 0 0", "queue 1 0", "send 0 0 2 2", "step 50", "send 1 2 0 1", "step 100", "clock"));
        for (int m = 0; m < 8; m++) {
            rows.addAll(List.of("where " + m + " 0", "where " + m + " 1", "where " + m + " 2", "where " + m + " 3"));
        }
        return rows;
    }

    private static List<String> fullProbe() {
        List<String> rows = new ArrayList<>();
        for (int what = 0; what < 9; what++) {
            rows.add("count " + what);
        }
        for (int m = 0; m < 30; m++) {
            rows.addAll(List.of("about " + m + " 2", "where " + m + " 0"));
        }
        for (int s = 0; s < 8; s++) {
            rows.addAll(List.of("ledger " + s + " 0", "ledger " + s + " 3", "queue " + s + " 0", "far 0 " + s));
        }
        rows.addAll(List.of("where 1 1", "where 2 1", "mended 0 0", "sum 0 0 1", "groupOf 1 0", "groupOf 1 1",
                "distance 1", "clock", "step 1", "where 2 0", "clock", "close 0", "groupOf 0 29", "groupOf 0 30",
                "feed 33", "phrase 2", "cut 296", "phrase 2", "tape yy", "phrase 2", "close 2", "ask 7", "send 3 0 1 0"));
        for (int l = 0; l < 12; l++) {
            rows.add("lose " + l);
        }
        return rows;
    }

    private static void callsAreNotTooMany() {
        Due.sentence("An object is used for at most 512 calls after it has been made");
        Due.due("calls of the rich house", RICH.size() + RICH_PROBE.size() + 40 <= Script.MOST_CALLS);
        Due.due("calls of the full house", FULL_HOUSE.size() + FULL_PROBE.size() + 40 <= Script.MOST_CALLS);
    }

    /** What is refused below is refused for its own reason only if the houses are as they are meant. */
    private static void housesAreAsTold() {
        Due.sentence("");
        TelegraphHouse x = build(new TelegraphHouse());
        int[] rich = {2, 7, 4, 2, 10, 1, 1, 1, 1};
        for (int what = 0; what < 9; what++) {
            Due.due("count " + what + " of the rich house", x.count(what), rich[what]);
        }
        for (int m = 3; m < 7; m++) {
            Due.due("how " + m + " is", x.where(m, 0), m - 2);
        }
        Due.due("blocks of message 2", x.about(2, 5), 2);
        Due.due("groups of message 1", x.about(1, 2), 5);
        Due.due("clock of the rich house", x.clock(), 13);
        TelegraphHouse y = new TelegraphHouse();
        Script.answers(y, FULL_HOUSE);
        int[] full = {3, 30, 8, 12, 296, 0, 1, 0, 1};
        for (int what = 0; what < 9; what++) {
            Due.due("count " + what + " of the full house", y.count(what), full[what]);
        }
        Due.due("clock of the full house", y.clock(), 5999);
        Due.due("phrases of book 0", y.close(0), 30);
    }

    /** The rows are set up, and then the call is refused in this way, and nothing has changed. */
    private static void refused(List<String> house, int want, String call, String... setUp) {
        List<String> probe = house == RICH ? RICH_PROBE : FULL_PROBE;
        List<String> rows = new ArrayList<>(house);
        rows.addAll(Script.calls(List.of(setUp)));
        TelegraphHouse asked = new TelegraphHouse();
        TelegraphHouse left = new TelegraphHouse();
        Script.answers(asked, rows);
        Script.answers(left, rows);
        String name = call + (setUp.length == 0 ? "" : " behind " + String.join(", ", setUp));
        Due.sentence("of several the first that a call names");
        Due.due(name, Script.answer(asked, call), want);
        Due.sentence("What is refused changes nothing.");
        int[] now = Script.answers(asked, probe);
        int[] due = Script.answers(left, probe);
        for (int i = 0; i < due.length; i++) {
            Due.due(probe.get(i) + " behind a refused " + name, now[i], due[i]);
        }
        REFUSED.merge(call.split(" ")[0] + " " + (want <= -100 ? "FAULT" : want), 1, Integer::sum);
    }

    private static void rich(int want, String call, String... setUp) {
        refused(RICH, want, call, setUp);
    }

    private static void ofTheTape() {
        rich(OUTSIDE, "cut -1");
        rich(OUTSIDE, "cut 11");
        rich(-110, "message", "tape !");
        rich(-100, "message", "cut 0");
        rich(-104, "message", "cut 4", "tape 1");
    }

    private static void ofBooks() {
        rich(OUTSIDE, "book -1 1");
        rich(OUTSIDE, "book 5001 1");
        rich(OUTSIDE, "book 0 0");
        rich(OUTSIDE, "book 0 10");
        rich(UNKNOWN, "phrase -1");
        rich(UNKNOWN, "phrase 2");
        rich(UNKNOWN, "phrase 2", "tape !");
        rich(-110, "phrase 1", "tape !");
        rich(-110, "phrase 0", "tape !");
        rich(-100, "phrase 1", "cut 0");
        rich(OUTSIDE, "phrase 1", "tape  a b c");
        rich(OUTSIDE, "phrase 1", "tape  7");
        rich(OUTSIDE, "phrase 0", "tape  7");
        rich(STATE, "phrase 0");
        rich(STATE, "phrase 1", "cut 4");
        rich(UNKNOWN, "close -1");
        rich(UNKNOWN, "close 2");
        rich(STATE, "close 0");
        rich(UNKNOWN, "groupOf 2 0");
        rich(UNKNOWN, "groupOf 0 2");
        rich(UNKNOWN, "groupOf 1 1");
        rich(UNKNOWN, "groupOf 1 -1");
        rich(STATE, "groupOf 1 0");
        rich(OUTSIDE, "sound -1");
        rich(OUTSIDE, "sound 10000");
        rich(UNKNOWN, "distance 2");
        rich(STATE, "distance 1");
    }

    private static void ofMessages() {
        rich(UNKNOWN, "about 7 0");
        rich(UNKNOWN, "about -1 6");
        rich(OUTSIDE, "about 0 6");
        rich(UNKNOWN, "condense 7 0");
        rich(UNKNOWN, "condense 7 1");
        rich(UNKNOWN, "condense 0 2");
        rich(UNKNOWN, "condense 3 2");
        rich(STATE, "condense 0 1");
        rich(STATE, "condense 2 1");
        for (int m = 3; m < 7; m++) {
            rich(STATE, "condense " + m + " 0");
        }
        rich(UNKNOWN, "part 7 0 0");
        rich(UNKNOWN, "part 1 3 0");
        rich(UNKNOWN, "part 1 3 3");
        rich(UNKNOWN, "part 0 0 0");
        rich(OUTSIDE, "part 1 0 3");
        rich(UNKNOWN, "group 7 0");
        rich(UNKNOWN, "group 1 5");
        rich(UNKNOWN, "group 0 0");
        rich(UNKNOWN, "expands 7");
        rich(STATE, "expands 0");
        rich(UNKNOWN, "best 7");
        rich(UNKNOWN, "charge 7 0 false false false");
        rich(UNKNOWN, "charge 7 4 true true false");
        rich(OUTSIDE, "charge 0 4 true true false");
        rich(OUTSIDE, "charge 0 -1 false false false");
        rich(STATE, "charge 0 3 true true true");
    }

    private static void ofSums() {
        rich(UNKNOWN, "guard 7");
        rich(STATE, "guard 0");
        rich(UNKNOWN, "sum 7 0 0");
        rich(UNKNOWN, "sum 1 0 0");
        rich(UNKNOWN, "sum 2 2 2");
        rich(OUTSIDE, "sum 2 1 2");
        rich(UNKNOWN, "hurt 7 0 0 0");
        rich(UNKNOWN, "hurt 0 0 0 0");
        rich(UNKNOWN, "hurt 2 9 0 0");
        rich(UNKNOWN, "hurt 2 9 5 26");
        rich(OUTSIDE, "hurt 2 0 5 1");
        rich(OUTSIDE, "hurt 2 0 -1 1");
        rich(OUTSIDE, "hurt 2 0 0 26");
        rich(OUTSIDE, "hurt 2 0 0 -1");
        rich(UNKNOWN, "swap 7 0 0");
        rich(UNKNOWN, "swap 2 9 0");
        rich(UNKNOWN, "swap 2 -1 4");
        rich(OUTSIDE, "swap 2 0 4");
        rich(OUTSIDE, "swap 2 0 -1");
        rich(UNKNOWN, "mend 7");
        rich(STATE, "mend 0");
        rich(STATE, "mend 1");
        rich(UNKNOWN, "mended 7 0");
        rich(UNKNOWN, "mended 1 0");
        rich(UNKNOWN, "mended 2 2");
    }

    private static void ofTheNet() {
        rich(UNKNOWN, "line 4 0 1 0 0");
        rich(UNKNOWN, "line 0 -1 1 0 0");
        rich(UNKNOWN, "line 4 4 0 24 24");
        rich(OUTSIDE, "line 0 1 0 0 0");
        rich(OUTSIDE, "line 0 1 61 0 0");
        rich(OUTSIDE, "line 0 1 1 24 0");
        rich(OUTSIDE, "line 0 1 1 0 24");
        rich(OUTSIDE, "line 0 0 1 0 24");
        rich(STATE, "line 0 0 1 0 0");
        rich(UNKNOWN, "path 4 0 0");
        rich(UNKNOWN, "path 0 4 0");
        rich(UNKNOWN, "far 4 0");
        rich(UNKNOWN, "far 0 4");
        rich(UNKNOWN, "send 7 0 1 0");
        rich(UNKNOWN, "send 0 4 1 0");
        rich(UNKNOWN, "send 0 0 4 0");
        rich(UNKNOWN, "send 3 4 4 3");
        rich(OUTSIDE, "send 0 0 1 3");
        rich(OUTSIDE, "send 0 0 1 -1");
        rich(OUTSIDE, "send 3 0 0 3");
        rich(STATE, "send 0 0 0 0");
        rich(STATE, "send 0 0 3 0");
        for (int m = 3; m < 7; m++) {
            rich(STATE, "send " + m + " 0 2 2");
        }
        rich(OUTSIDE, "step 0");
        rich(OUTSIDE, "step 301");
        rich(OUTSIDE, "step -1");
        rich(UNKNOWN, "where 7 0");
        rich(UNKNOWN, "where -1 4");
        rich(OUTSIDE, "where 0 4");
        rich(UNKNOWN, "queue 4 0");
        rich(UNKNOWN, "lose 2");
        rich(UNKNOWN, "lose -1");
        rich(UNKNOWN, "ask 4");
        rich(UNKNOWN, "ask -1");
        rich(UNKNOWN, "ledger 4 0");
        rich(UNKNOWN, "ledger 4 4");
        rich(OUTSIDE, "ledger 0 4");
        rich(OUTSIDE, "count 9");
        rich(OUTSIDE, "count -1");
    }

    private static void ofAFullHouse() {
        refused(FULL_HOUSE, FULL, "feed " + Due.packed("abcde", 0));
        refused(FULL_HOUSE, FULL, "feed -1");
        refused(FULL_HOUSE, FULL, "feed 97", "tape abcd");
        refused(FULL_HOUSE, FULL, "message");
        refused(FULL_HOUSE, FULL, "message", "cut 0");
        refused(FULL_HOUSE, FULL, "message", "tape !");
        refused(FULL_HOUSE, FULL, "book 0 1");
        refused(FULL_HOUSE, OUTSIDE, "book 0 0");
        refused(FULL_HOUSE, FULL, "phrase 0");
        refused(FULL_HOUSE, STATE, "phrase 0", "cut 0", "tape waa");
        refused(FULL_HOUSE, STATE, "phrase 0", "close 0");
        refused(FULL_HOUSE, OUTSIDE, "phrase 0", "tape 7");
        refused(FULL_HOUSE, -396, "phrase 0", "tape !");
        refused(FULL_HOUSE, UNKNOWN, "phrase 3", "tape !");
        refused(FULL_HOUSE, FULL, "station");
        refused(FULL_HOUSE, FULL, "line 0 1 1 0 0");
        refused(FULL_HOUSE, STATE, "line 7 7 1 0 0");
        refused(FULL_HOUSE, OUTSIDE, "line 7 7 0 0 0");
        refused(FULL_HOUSE, UNKNOWN, "line 8 8 0 0 0");
        refused(FULL_HOUSE, FULL, "step 2");
        refused(FULL_HOUSE, FULL, "step 300");
        refused(FULL_HOUSE, OUTSIDE, "step 301");
        refused(FULL_HOUSE, OUTSIDE, "step 0");
        refused(FULL_HOUSE, FULL, "step 1", "step 1");
    }

    /** Every refusal that a promise names was looked at above. */
    private static void everyRefusalOfTheFace() {
        Due.sentence("REFUSALS");
        String[] named = {
            "feed -4", "cut -2", "message FAULT", "message -4", "book -2", "book -4", "phrase -1",
            "phrase FAULT", "phrase -2", "phrase -3", "phrase -4", "close -1", "close -3", "groupOf -1",
            "groupOf -3", "sound -2", "distance -1", "distance -3", "about -1", "about -2", "condense -1",
            "condense -3", "part -1", "part -2", "group -1", "expands -1", "expands -3", "best -1",
            "guard -1", "guard -3", "sum -1", "sum -2", "hurt -1", "hurt -2", "swap -1", "swap -2",
            "mend -1", "mend -3", "mended -1", "charge -1", "charge -2", "charge -3", "station -4",
            "line -1", "line -2", "line -3", "line -4", "path -1", "far -1", "send -1", "send -2",
            "send -3", "step -2", "step -4", "where -1", "where -2", "queue -1", "lose -1", "ask -1",
            "ledger -1", "ledger -2", "count -2",
        };
        for (String refusal : named) {
            Due.due("looked at " + refusal, REFUSED.containsKey(refusal));
        }
        Due.due("no other", REFUSED.size(), named.length);
    }

    private static final int LEAST = Integer.MIN_VALUE;
    private static final int MOST = Integer.MAX_VALUE;
    private static final int[] MESSAGES = {LEAST, -1, 0, 1, 2, 3, 6, 7, MOST};
    private static final int[] BOOKS = {LEAST, -9, -1, 0, 1, 2, 3, MOST};
    private static final int[] STATIONS = {LEAST, -1, 0, 2, 3, 4, MOST};
    private static final int[] PLACES = {LEAST, -1, 0, 1, 2, 3, 4, 5, 8, 9, MOST};
    private static final int[] WHATS = {LEAST, -9, -1, 0, 1, 2, 3, 4, 5, 6, 8, 9, MOST};
    private static final int[] TRUTHS = {0, 1};

    /** Numbers at and beside each bound, all together: as the model answers, and what is refused. */
    private static void everyNumber() {
        sweep("feed", new int[] {LEAST, -1, 0, 97, 32, 256, MOST});
        sweep("cut", new int[] {LEAST, -1, 0, 1, 9, 10, 11, 300, MOST});
        sweep("book", new int[] {LEAST, -1, 0, 5000, 5001, MOST}, new int[] {LEAST, -1, 0, 1, 9, 10, MOST});
        sweep("phrase", BOOKS);
        sweep("close", BOOKS);
        sweep("groupOf", BOOKS, PLACES);
        sweep("sound", new int[] {LEAST, -1, 0, 1, 9999, 10000, MOST});
        sweep("distance", BOOKS);
        sweep("about", MESSAGES, WHATS);
        sweep("condense", MESSAGES, BOOKS);
        sweep("part", MESSAGES, PLACES, WHATS);
        sweep("group", MESSAGES, PLACES);
        sweep("expands", MESSAGES);
        sweep("best", MESSAGES);
        sweep("guard", MESSAGES);
        sweep("sum", MESSAGES, PLACES, WHATS);
        sweep("hurt", new int[] {-1, 0, 2, 7}, new int[] {LEAST, -1, 0, 8, 9, MOST},
                new int[] {LEAST, -1, 0, 4, 5, MOST}, new int[] {LEAST, -1, 0, 25, 26, MOST});
        sweep("swap", MESSAGES, PLACES, PLACES);
        sweep("mend", MESSAGES);
        sweep("mended", MESSAGES, PLACES);
        sweep("charge", MESSAGES, PLACES, TRUTHS, TRUTHS, TRUTHS);
        sweep("line", new int[] {-1, 0, 3, 4}, new int[] {-1, 0, 3, 4}, new int[] {LEAST, 0, 1, 60, 61},
                new int[] {-1, 0, 23, 24}, new int[] {-1, 0, 23, 24});
        sweep("path", STATIONS, STATIONS, PLACES);
        sweep("far", STATIONS, STATIONS);
        sweep("send", MESSAGES, new int[] {-1, 0, 2, 3, 4}, new int[] {-1, 0, 2, 3, 4}, new int[] {-1, 0, 2, 3});
        sweep("step", new int[] {LEAST, -1, 0, 1, 2, 299, 300, 301, 6000, MOST});
        sweep("where", MESSAGES, WHATS);
        sweep("queue", STATIONS, PLACES);
        sweep("lose", BOOKS);
        sweep("ask", STATIONS);
        sweep("ledger", STATIONS, WHATS);
        sweep("count", WHATS);
    }

    private static void sweep(String name, int[]... values) {
        int all = 1;
        for (int[] row : values) {
            all *= row.length;
        }
        int[] due = Script.answers(build(new TelegraphHouse()), RICH_PROBE);
        Model model = build(new Model());
        int asked = 0;
        for (int i = 0; i < all; i++) {
            StringBuilder call = new StringBuilder(name);
            int rest = i;
            for (int[] row : values) {
                int value = row[rest % row.length];
                call.append(' ').append(row == TRUTHS ? String.valueOf(value == 1) : String.valueOf(value));
                rest /= row.length;
            }
            TelegraphHouse x = build(new TelegraphHouse());
            int want = Script.answer(model, call.toString());
            Due.sentence("as the model of the document answers");
            Due.due(call.toString(), Script.answer(x, call.toString()), want);
            if (want == UNKNOWN || want == OUTSIDE || want == STATE || want == FULL || want <= -100) {
                Due.sentence("What is refused changes nothing.");
                asked++;
                Due.due("all answers behind a refused " + call, Arrays.equals(Script.answers(x, RICH_PROBE), due));
            } else {
                model = build(new Model());
            }
        }
        Due.due("some calls of " + name + " are refused", asked > 0 || name.equals("feed"));
    }

    private static <T> T build(T house) {
        Script.answers(house, RICH);
        return house;
    }
}
