/** Part 6, STATIONS, LINES, HOURS and THE PATH, and promises 24 to 27: each sentence with a bound. */
public final class NetEdgeTest {
    private static final int UNKNOWN = TelegraphHouse.UNKNOWN;
    private static final int OUTSIDE = TelegraphHouse.OUTSIDE;
    private static final int STATE = TelegraphHouse.STATE;
    private static final int FULL = TelegraphHouse.FULL;
    private static final int NONE = TelegraphHouse.NONE;
    private static final int LEAST = Integer.MIN_VALUE;
    private static final int MOST = Integer.MAX_VALUE;

    public static void main(String[] args) {
        eightStations();
        twelveLines();
        noSuchStation();
        minutesBounds();
        hoursBounds();
        bothAreOne();
        openUpToAheadOf();
        overMidnight();
        always();
        everyHours();
        hourIsModulo24();
        fewestMinutes();
        quickestOfSeveral();
        lesserLineOfLikeOnes();
        fewestLines();
        lesserAtTheFirstPlace();
        bothWays();
        hoursDoNotCount();
        asItIsNow();
        longestPath();
        pathBounds();
        noPath();
        farOfOne();
        Due.end();
    }

    private static void eightStations() {
        Due.sentence("A STATION: its number. FULL: 8.");
        TelegraphHouse x = new TelegraphHouse();
        for (int s = 0; s < 8; s++) {
            Due.due("no station " + s + " yet", x.ask(s), UNKNOWN);
            Due.due("station " + s, x.station(), s);
            Due.due("stations", x.count(2), s + 1);
            Due.due("it is there", x.ledger(s, 0), 0);
        }
        Due.due("a ninth one", x.station(), FULL);
        Due.due("a ninth one again", x.station(), FULL);
        Due.due("eight", x.count(2), 8);
        Due.due("no station 8", x.queue(8, 0), UNKNOWN);
        Due.due("a line of the last one", x.line(7, 0, 1, 0, 0), 0);
    }

    private static void twelveLines() {
        Due.sentence("A LINE: its number. UNKNOWN; OUTSIDE: MINUTES, HOURS; STATE: both are one; FULL: 12.");
        TelegraphHouse x = Due.net(3, 0);
        for (int l = 0; l < 12; l++) {
            Due.due("no line " + l + " yet", x.lose(l), UNKNOWN);
            Due.due("line " + l, x.line(l % 2, 1 - l % 2, 9, 0, 0), l);
            Due.due("lines", x.count(3), l + 1);
        }
        Due.due("a thirteenth", x.line(0, 2, 1, 0, 0), FULL);
        Due.due("no path by it", x.far(0, 2), NONE);
        Due.due("both are one, ahead of full", x.line(1, 1, 1, 0, 0), STATE);
        Due.due("minutes, ahead of full", x.line(0, 1, 61, 0, 0), OUTSIDE);
        Due.due("a station, ahead of full", x.line(0, 3, 1, 0, 0), UNKNOWN);
        Due.due("twelve", x.count(3), 12);
        Due.due("the last one", x.lose(11), 1);
        Due.due("no line 12", x.lose(12), UNKNOWN);
    }

    private static void noSuchStation() {
        Due.sentence("UNKNOWN (there is no such .. STATION");
        for (int s : new int[] {LEAST, -9, -1, 2, 3, 8, MOST}) {
            TelegraphHouse x = Due.net(2, 1);
            x.line(0, 1, 1, 0, 0);
            Due.due("line from " + s, x.line(s, 0, 1, 0, 0), UNKNOWN);
            Due.due("line to " + s, x.line(0, s, 1, 0, 0), UNKNOWN);
            Due.due("line of " + s + ", ahead of outside and state", x.line(s, s, 0, -1, 24), UNKNOWN);
            Due.due("path from " + s, x.path(s, 0, 0), UNKNOWN);
            Due.due("path to " + s, x.path(0, s, 0), UNKNOWN);
            Due.due("path of " + s, x.path(s, s, -1), UNKNOWN);
            Due.due("far from " + s, x.far(s, 0), UNKNOWN);
            Due.due("far to " + s, x.far(0, s), UNKNOWN);
            Due.due("far of " + s, x.far(s, s), UNKNOWN);
            Due.due("send from " + s, x.send(0, s, 0, 0), UNKNOWN);
            Due.due("send to " + s, x.send(0, 0, s, 3), UNKNOWN);
            Due.due("queue " + s, x.queue(s, 0), UNKNOWN);
            Due.due("ask " + s, x.ask(s), UNKNOWN);
            Due.due("ledger " + s, x.ledger(s, 4), UNKNOWN);
            Due.due("one line", x.count(3), 1);
            Due.due("not sent", x.where(0, 0), 0);
        }
    }

    private static void minutesBounds() {
        Due.sentence("each of so many MINUTES (1 .. 60)");
        for (int minutes : new int[] {LEAST, -1, 0, 61, 62, MOST}) {
            TelegraphHouse x = Due.net(2, 0);
            Due.due("minutes " + minutes, x.line(0, 1, minutes, 0, 0), OUTSIDE);
            Due.due("minutes " + minutes + ", ahead of state", x.line(0, 0, minutes, 0, 0), OUTSIDE);
            Due.due("no line", x.count(3), 0);
            Due.due("no path", x.far(0, 1), NONE);
        }
        for (int minutes : new int[] {1, 2, 59, 60}) {
            TelegraphHouse x = Due.net(2, 1);
            Due.due("minutes " + minutes, x.line(0, 1, minutes, 0, 0), 0);
            Due.due("far", x.far(0, 1), minutes);
            x.send(0, 0, 1, 0);
            Due.due("it has not come ahead of its minute", x.step(minutes), 0);
            Due.due("it comes in it", x.step(1), 1);
            Due.due("the minute", x.where(0, 2), minutes);
        }
    }

    private static void hoursBounds() {
        Due.sentence("open from one HOUR up to ahead of another one (0 .. 23");
        for (int hour : new int[] {LEAST, -1, 24, 25, MOST}) {
            TelegraphHouse x = Due.net(2, 0);
            Due.due("from " + hour, x.line(0, 1, 1, hour, 0), OUTSIDE);
            Due.due("to " + hour, x.line(0, 1, 1, 0, hour), OUTSIDE);
            Due.due("both " + hour, x.line(0, 1, 1, hour, hour), OUTSIDE);
            Due.due("both " + hour + ", ahead of state", x.line(1, 1, 1, hour, hour), OUTSIDE);
            Due.due("no line", x.count(3), 0);
        }
        TelegraphHouse x = Due.net(2, 0);
        Due.due("0 to 23", x.line(0, 1, 1, 0, 23), 0);
        Due.due("23 to 0", x.line(0, 1, 1, 23, 0), 1);
        Due.due("23 to 23", x.line(0, 1, 1, 23, 23), 2);
    }

    private static void bothAreOne() {
        Due.sentence("STATE: both are one");
        TelegraphHouse x = Due.net(8, 0);
        for (int s = 0; s < 8; s++) {
            Due.due("a line from " + s + " to itself", x.line(s, s, 1, 0, 0), STATE);
        }
        Due.due("no line", x.count(3), 0);
        Due.due("two stations", x.line(7, 6, 1, 0, 0), 0);
    }

    private static void goTo(TelegraphHouse x, int minute) {
        while (x.clock() < minute) {
            x.step(Math.min(300, minute - x.clock()));
        }
    }

    /** Whether a run begins in a minute on a line with these hours. */
    private static boolean begins(int from, int to, int minute) {
        TelegraphHouse x = Due.net(2, 1);
        x.line(0, 1, 60, from, to);
        goTo(x, minute);
        x.send(0, 0, 1, 0);
        x.step(1);
        return x.where(0, 0) == 2;
    }

    private static void openUpToAheadOf() {
        Due.sentence("open from one HOUR up to ahead of another one");
        Due.due("the minute ahead of hour 5", !begins(5, 7, 299));
        Due.due("the first minute of hour 5", begins(5, 7, 300));
        Due.due("the last minute of hour 6", begins(5, 7, 419));
        Due.due("the first minute of hour 7", !begins(5, 7, 420));
        Due.due("hour 0 alone: its first minute", begins(0, 1, 0));
        Due.due("hour 0 alone: its last minute", begins(0, 1, 59));
        Due.due("hour 0 alone: the next one", !begins(0, 1, 60));
        Due.due("hour 0 alone: the last of the day", !begins(0, 1, 1439));
        Due.due("hour 0 alone: the next day", begins(0, 1, 1440));
        Due.due("up to 23: its last minute", begins(0, 23, 1379));
        Due.due("up to 23: hour 23", !begins(0, 23, 1380));
    }

    private static void overMidnight() {
        Due.sentence("over midnight, if that is the lesser");
        Due.due("22 to 2: the minute ahead", !begins(22, 2, 1319));
        Due.due("22 to 2: the first minute", begins(22, 2, 1320));
        Due.due("22 to 2: the last of the day", begins(22, 2, 1439));
        Due.due("22 to 2: midnight", begins(22, 2, 1440));
        Due.due("22 to 2: the first day's midnight", begins(22, 2, 0));
        Due.due("22 to 2: the last minute", begins(22, 2, 1559));
        Due.due("22 to 2: shut", !begins(22, 2, 1560));
        Due.due("23 to 0: the minute ahead", !begins(23, 0, 1379));
        Due.due("23 to 0: the first minute", begins(23, 0, 1380));
        Due.due("23 to 0: the last minute", begins(23, 0, 1439));
        Due.due("23 to 0: midnight", !begins(23, 0, 1440));
        Due.due("1 to 0: midnight", !begins(1, 0, 59));
        Due.due("1 to 0: all but hour 0", begins(1, 0, 60));
    }

    private static void always() {
        Due.sentence("always, if both are one");
        for (int hour : new int[] {0, 1, 12, 23}) {
            for (int minute : new int[] {0, 59, 60, 719, 720, 779, 780, 1379, 1380, 1439, 1440}) {
                Due.due(hour + " to " + hour + " in minute " + minute, begins(hour, hour, minute));
            }
        }
    }

    /** All pairs of hours, at their bounds, on the first day and on the second. */
    private static void everyHours() {
        Due.sentence("(0 .. 23; over midnight, if that is the lesser; always, if both are one)");
        for (int from = 0; from < 24; from++) {
            for (int to = 0; to < 24; to++) {
                for (int hour : new int[] {from, (from + 23) % 24, to, (to + 23) % 24}) {
                    boolean open = from == to;
                    for (int h = from; h != to; h = (h + 1) % 24) {
                        open |= h == hour;
                    }
                    String name = from + " to " + to + " in hour " + hour;
                    Due.due(name, begins(from, to, 60 * hour) == open);
                    Due.due(name + ", its last minute, a day later", begins(from, to, 60 * hour + 1499) == open);
                }
            }
        }
    }

    private static void hourIsModulo24() {
        Due.sentence("HOUR is MINUTE / 60 modulo 24");
        for (int day = 0; day < 4; day++) {
            int at = 1440 * day;
            Due.due("day " + day + ": ahead of hour 3", !begins(3, 4, at + 179));
            Due.due("day " + day + ": hour 3", begins(3, 4, at + 180));
            Due.due("day " + day + ": the end of hour 3", begins(3, 4, at + 239));
            Due.due("day " + day + ": hour 4", !begins(3, 4, at + 240));
        }
        Due.due("minute 5999 is in hour 3", begins(3, 4, 5999));
        Due.due("minute 5939 is in hour 2", !begins(3, 4, 5939));
    }

    private static void path(TelegraphHouse x, int minutes, int... stations) {
        int a = stations[0];
        int b = stations[stations.length - 1];
        String name = "from " + a + " to " + b;
        Due.due(name + ": far", x.far(a, b), minutes);
        for (int i = 0; i < stations.length; i++) {
            Due.due(name + ": station " + i, x.path(a, b, i), stations[i]);
        }
        Due.due(name + ": behind the end", x.path(a, b, stations.length), NONE);
    }

    private static void fewestMinutes() {
        Due.sentence("THE PATH from one to another is that of the fewest MINUTES");
        TelegraphHouse x = Due.net(8, 0);
        x.line(0, 7, 60, 0, 0);
        path(x, 60, 0, 7);
        x.line(0, 6, 30, 0, 0);
        x.line(6, 7, 29, 0, 0);
        path(x, 59, 0, 6, 7);
        for (int s = 0; s < 5; s++) {
            x.line(s, s + 1, 10, 0, 0);
        }
        x.line(5, 7, 8, 0, 0);
        path(x, 58, 0, 1, 2, 3, 4, 5, 7);
        path(x, 58, 7, 5, 4, 3, 2, 1, 0);
        path(x, 18, 4, 5, 7);
    }

    private static void quickestOfSeveral() {
        Due.sentence("of several between two the quickest");
        TelegraphHouse x = Due.net(3, 3);
        x.line(0, 1, 9, 0, 0);
        x.line(1, 0, 7, 0, 0);
        x.line(0, 1, 8, 0, 0);
        x.line(1, 2, 5, 0, 0);
        x.line(2, 1, 4, 0, 0);
        path(x, 7, 0, 1);
        path(x, 11, 0, 1, 2);
        x.send(0, 0, 1, 0);
        x.send(1, 1, 0, 0);
        x.send(2, 1, 2, 0);
        x.step(1);
        Due.due("line from 0 to 1", x.where(0, 1), 1);
        Due.due("line from 1 to 0", x.where(1, 1), 1);
        Due.due("line from 1 to 2", x.where(2, 1), 4);
    }

    private static void lesserLineOfLikeOnes() {
        Due.sentence("of like ones the lesser LINE");
        TelegraphHouse x = Due.net(2, 2);
        x.line(0, 1, 9, 0, 0);
        x.line(1, 0, 7, 0, 0);
        x.line(0, 1, 7, 0, 0);
        x.line(0, 1, 7, 0, 0);
        x.send(0, 0, 1, 0);
        x.send(1, 1, 0, 0);
        x.step(1);
        Due.due("line from 0 to 1", x.where(0, 1), 1);
        Due.due("line from 1 to 0", x.where(1, 1), 1);
    }

    private static void fewestLines() {
        Due.sentence("of like ones of the fewest LINES");
        TelegraphHouse x = Due.net(8, 0);
        x.line(0, 1, 1, 0, 0);
        x.line(1, 2, 1, 0, 0);
        x.line(2, 3, 1, 0, 0);
        x.line(3, 7, 3, 0, 0);
        path(x, 6, 0, 1, 2, 3, 7);
        x.line(0, 4, 2, 0, 0);
        x.line(4, 5, 2, 0, 0);
        x.line(5, 7, 2, 0, 0);
        path(x, 6, 0, 4, 5, 7);
        x.line(0, 6, 5, 0, 0);
        x.line(6, 7, 1, 0, 0);
        path(x, 6, 0, 6, 7);
        path(x, 6, 7, 6, 0);
        x.line(7, 0, 7, 0, 0);
        path(x, 6, 0, 6, 7);
        x.line(7, 0, 6, 0, 0);
        path(x, 6, 0, 7);
        // Of seven lines and of two: the minutes go ahead of the lines.
        TelegraphHouse y = Due.net(8, 0);
        for (int s = 0; s < 7; s++) {
            y.line(s, s + 1, 1, 0, 0);
        }
        y.line(0, 7, 8, 0, 0);
        path(y, 7, 0, 1, 2, 3, 4, 5, 6, 7);
        y.line(0, 7, 7, 0, 0);
        path(y, 7, 0, 7);
    }

    private static void lesserAtTheFirstPlace() {
        Due.sentence("of like ones the one whose STATIONS are lesser at the first place where they are unlike");
        TelegraphHouse x = Due.net(8, 0);
        x.line(0, 3, 2, 0, 0);
        x.line(3, 7, 2, 0, 0);
        path(x, 4, 0, 3, 7);
        x.line(0, 2, 1, 0, 0);
        x.line(2, 7, 3, 0, 0);
        path(x, 4, 0, 2, 7);
        x.line(7, 1, 1, 0, 0);
        x.line(1, 0, 3, 0, 0);
        path(x, 4, 0, 1, 7);
        path(x, 4, 7, 1, 0);
        // 0 1 6 7 and 0 2 3 7: from 0 the first place decides, from 7 the 3.
        TelegraphHouse y = Due.net(8, 0);
        y.line(0, 2, 1, 0, 0);
        y.line(2, 3, 1, 0, 0);
        y.line(3, 7, 1, 0, 0);
        y.line(0, 1, 1, 0, 0);
        y.line(1, 6, 1, 0, 0);
        y.line(6, 7, 1, 0, 0);
        path(y, 3, 0, 1, 6, 7);
        path(y, 3, 7, 3, 2, 0);
        // 4 5 3 and 4 5 2: unlike at the third place alone.
        TelegraphHouse z = Due.net(8, 0);
        z.line(4, 5, 1, 0, 0);
        z.line(5, 3, 1, 0, 0);
        z.line(5, 2, 1, 0, 0);
        z.line(3, 6, 1, 0, 0);
        z.line(2, 6, 1, 0, 0);
        path(z, 3, 4, 5, 2, 6);
        path(z, 3, 6, 2, 5, 4);
    }

    private static void bothWays() {
        Due.sentence("LINES 0 .. 11 between two STATIONS, both ways");
        TelegraphHouse x = Due.net(3, 2);
        x.line(2, 1, 3, 0, 0);
        path(x, 3, 2, 1);
        path(x, 3, 1, 2);
        x.send(0, 2, 1, 0);
        x.send(1, 1, 2, 0);
        Due.due("both come", x.step(4), 2);
        Due.due("there", x.where(0, 1), 1);
        Due.due("and back", x.where(1, 1), 2);
    }

    private static void hoursDoNotCount() {
        Due.sentence("THE PATH from one to another is that of the fewest MINUTES (of its LINES");
        TelegraphHouse x = Due.net(3, 1);
        x.line(0, 1, 20, 0, 0);
        x.line(0, 2, 9, 5, 6);
        x.line(2, 1, 9, 0, 1);
        path(x, 18, 0, 2, 1);
        x.send(0, 0, 1, 0);
        goTo(x, 300);
        Due.due("it waits for the line that is shut", x.where(0, 0), 1);
        x.step(1);
        Due.due("then it runs on it", x.where(0, 1), 1);
    }

    private static void asItIsNow() {
        Due.sentence("STATION i of THE PATH from a to b as it is now (0: a)");
        TelegraphHouse x = Due.net(2, 0);
        Due.due("no line", x.path(0, 1, 0), NONE);
        x.line(0, 1, 9, 0, 0);
        path(x, 9, 0, 1);
        Due.due("a new station", x.station(), 2);
        x.line(0, 2, 4, 0, 0);
        path(x, 9, 0, 1);
        x.line(2, 1, 4, 0, 0);
        path(x, 8, 0, 2, 1);
        x.line(1, 0, 8, 0, 0);
        path(x, 8, 0, 1);
    }

    private static void longestPath() {
        Due.sentence("A PATH is a row of STATIONS along LINES");
        int[] row = {3, 0, 7, 1, 6, 2, 5, 4};
        TelegraphHouse x = Due.net(8, 0);
        for (int i = 6; i >= 0; i--) {
            x.line(row[i], row[i + 1], 60, 0, 0);
        }
        path(x, 420, 3, 0, 7, 1, 6, 2, 5, 4);
        path(x, 420, 4, 5, 2, 6, 1, 7, 0, 3);
        path(x, 120, 1, 6, 2);
    }

    private static void pathBounds() {
        Due.sentence("NONE: no such. UNKNOWN.");
        TelegraphHouse x = Due.net(3, 0);
        x.line(0, 1, 1, 0, 0);
        x.line(1, 2, 1, 0, 0);
        for (int i : new int[] {LEAST, -1, 3, 4, 8, MOST}) {
            Due.due("station " + i, x.path(0, 2, i), NONE);
        }
        for (int i = 0; i < 3; i++) {
            Due.due("station " + i, x.path(0, 2, i), i);
        }
        for (int s = 0; s < 3; s++) {
            path(x, 0, s);
            Due.due("ahead of it", x.path(s, s, -1), NONE);
        }
    }

    private static void noPath() {
        Due.sentence("NONE: there is none.");
        TelegraphHouse x = Due.net(4, 1);
        x.line(0, 1, 1, 0, 0);
        x.line(2, 3, 1, 0, 0);
        for (int a = 0; a < 2; a++) {
            for (int b = 2; b < 4; b++) {
                Due.due("far " + a + " " + b, x.far(a, b), NONE);
                Due.due("far " + b + " " + a, x.far(b, a), NONE);
                for (int i = -1; i < 3; i++) {
                    Due.due("path " + a + " " + b + " " + i, x.path(a, b, i), NONE);
                }
            }
        }
        x.line(1, 2, 1, 0, 0);
        path(x, 3, 0, 1, 2, 3);
    }

    private static void farOfOne() {
        Due.sentence("The MINUTES of THE PATH (0 if a is b)");
        TelegraphHouse x = Due.net(2, 0);
        Due.due("without a line", x.far(1, 1), 0);
        x.line(0, 1, 60, 0, 0);
        Due.due("with a line", x.far(1, 1), 0);
        Due.due("of the other", x.far(0, 0), 0);
        Due.due("between them", x.far(0, 1), 60);
    }
}
