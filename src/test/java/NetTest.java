/** Promises 24 to 36: the net. */
public final class NetTest {
    private static final int NONE = TelegraphHouse.NONE;
    private static final int UNKNOWN = TelegraphHouse.UNKNOWN;
    private static final int OUTSIDE = TelegraphHouse.OUTSIDE;
    private static final int STATE = TelegraphHouse.STATE;
    private static final int FULL = TelegraphHouse.FULL;

    public static void main(String[] args) {
        stations();
        lines();
        paths();
        pathTies();
        sends();
        steps();
        oneRun();
        twoLegs();
        bothWays();
        hours();
        overMidnight();
        priorities();
        queues();
        losses();
        lossesEitherWay();
        asking();
        askedForIsNoMessageMore();
        askingByNewPath();
        keptPath();
        ledgers();
        counts();
        Due.end();
    }

    private static void where(TelegraphHouse x, String when, int message, int state, int place, int came) {
        Due.due(when + ": how it is", x.where(message, 0), state);
        Due.due(when + ": its place", x.where(message, 1), place);
        Due.due(when + ": its minute", x.where(message, 2), came);
    }

    private static void stations() {
        TelegraphHouse x = new TelegraphHouse();
        for (int i = 0; i < 8; i++) {
            Due.due("station " + i, x.station(), i);
        }
        Due.due("full", x.station(), FULL);
        Due.due("eight", x.count(2), 8);
        Due.due("the last station", x.ledger(7, 3), 0);
        Due.due("no station 8", x.ledger(8, 0), UNKNOWN);
        Due.due("no path to it", x.path(0, 8, 0), UNKNOWN);
        allThirty();
    }

    /** As many messages as there may be, all sent. */
    private static void allThirty() {
        TelegraphHouse x = Due.net(2, 30);
        x.line(0, 1, 1, 0, 0);
        for (int m = 0; m < 30; m++) {
            Due.due("sent " + m, x.send(m, 0, 1, m % 3), m + 1);
        }
        Due.due("no message 30", x.where(30, 0), UNKNOWN);
        Due.due("no message 31", x.where(31, 0), UNKNOWN);
        Due.due("none to send", x.send(30, 0, 1, 0), UNKNOWN);
        Due.due("the last of the queue", x.queue(0, 29), 27);
        Due.due("none behind it", x.queue(0, 30), NONE);
        Due.due("all come", x.step(31), 30);
        Due.due("all came", x.ledger(1, 1), 30);
        Due.due("the last one", x.where(27, 2), 30);
    }

    private static void lines() {
        TelegraphHouse x = Due.net(3, 0);
        Due.due("unknown a", x.line(3, 0, 1, 0, 0), UNKNOWN);
        Due.due("unknown a below", x.line(-1, 0, 1, 0, 0), UNKNOWN);
        Due.due("unknown b", x.line(0, 3, 0, 0, 0), UNKNOWN);
        Due.due("unknown b below", x.line(0, -9, 0, 0, 0), UNKNOWN);
        Due.due("minutes below", x.line(0, 1, 0, 0, 0), OUTSIDE);
        Due.due("minutes above", x.line(0, 1, 61, 0, 0), OUTSIDE);
        Due.due("from below", x.line(0, 1, 1, -1, 0), OUTSIDE);
        Due.due("from above", x.line(0, 1, 1, 24, 0), OUTSIDE);
        Due.due("to below", x.line(0, 1, 1, 0, -1), OUTSIDE);
        Due.due("to above", x.line(0, 1, 1, 0, 24), OUTSIDE);
        Due.due("outside ahead of state", x.line(1, 1, 0, 0, 0), OUTSIDE);
        Due.due("both are one", x.line(1, 1, 1, 0, 0), STATE);
        Due.due("none", x.count(3), 0);
        Due.due("most", x.line(0, 1, 60, 23, 23), 0);
        for (int i = 1; i < 12; i++) {
            Due.due("line " + i, x.line(1, 0, 1, 0, 0), i);
        }
        Due.due("state ahead of full", x.line(1, 1, 1, 0, 0), STATE);
        Due.due("full", x.line(0, 2, 1, 0, 0), FULL);
        Due.due("twelve", x.count(3), 12);
        Due.due("the last line", x.lose(11), 1);
        Due.due("no line 12", x.lose(12), UNKNOWN);
        Due.due("no line 13", x.lose(13), UNKNOWN);
    }

    private static void path(TelegraphHouse x, int a, int b, int minutes, int... stations) {
        String name = "from " + a + " to " + b;
        Due.due(name + " far", x.far(a, b), minutes);
        for (int i = 0; i < stations.length; i++) {
            Due.due(name + " at " + i, x.path(a, b, i), stations[i]);
        }
        Due.due(name + " behind", x.path(a, b, stations.length), NONE);
        Due.due(name + " ahead", x.path(a, b, -1), NONE);
    }

    private static void paths() {
        TelegraphHouse x = Due.net(5, 0);
        path(x, 2, 2, 0, 2);
        path(x, 0, 1, NONE);
        x.line(0, 1, 20, 0, 0);
        path(x, 0, 1, 20, 0, 1);
        path(x, 1, 0, 20, 1, 0);
        x.line(0, 2, 5, 3, 4);
        x.line(2, 1, 14, 0, 0);
        path(x, 0, 1, 19, 0, 2, 1);
        path(x, 1, 0, 19, 1, 2, 0);
        x.line(1, 0, 18, 0, 0);
        path(x, 0, 1, 18, 0, 1);
        path(x, 0, 4, NONE);
        x.line(4, 1, 60, 0, 0);
        path(x, 4, 0, 78, 4, 1, 0);
        path(x, 4, 2, 74, 4, 1, 2);
        Due.due("unknown a", x.path(5, 0, 0), UNKNOWN);
        Due.due("unknown b", x.path(0, -1, 0), UNKNOWN);
        Due.due("far unknown a", x.far(-1, 0), UNKNOWN);
        Due.due("far unknown b", x.far(0, 5), UNKNOWN);
        Due.due("far unknown both", x.far(5, 5), UNKNOWN);
    }

    private static void pathTies() {
        TelegraphHouse x = Due.net(8, 0);
        x.line(0, 1, 2, 0, 0);
        x.line(1, 2, 2, 0, 0);
        x.line(2, 7, 2, 0, 0);
        path(x, 0, 7, 6, 0, 1, 2, 7);
        x.line(0, 6, 1, 0, 0);
        x.line(6, 7, 5, 0, 0);
        // As many minutes, but fewer lines.
        path(x, 0, 7, 6, 0, 6, 7);
        path(x, 7, 0, 6, 7, 6, 0);
        x.line(7, 4, 3, 0, 0);
        x.line(4, 0, 3, 0, 0);
        // As many minutes and lines, but a lesser station.
        path(x, 0, 7, 6, 0, 4, 7);
        path(x, 7, 0, 6, 7, 4, 0);
        x.line(7, 5, 3, 0, 0);
        x.line(5, 0, 3, 0, 0);
        path(x, 0, 7, 6, 0, 4, 7);
        firstPlaceUnlike();
        longest();
    }

    /** 0 1 6 7 goes ahead of 0 2 3 7: the first place where they are unlike decides. */
    private static void firstPlaceUnlike() {
        TelegraphHouse x = Due.net(8, 0);
        x.line(0, 2, 1, 0, 0);
        x.line(2, 3, 1, 0, 0);
        x.line(3, 7, 1, 0, 0);
        x.line(0, 1, 1, 0, 0);
        x.line(1, 6, 1, 0, 0);
        x.line(6, 7, 1, 0, 0);
        path(x, 0, 7, 3, 0, 1, 6, 7);
        path(x, 7, 0, 3, 7, 3, 2, 0);
    }

    private static void longest() {
        TelegraphHouse x = Due.net(8, 1);
        for (int i = 0; i < 7; i++) {
            x.line(i + 1, i, 60, 0, 0);
        }
        path(x, 0, 7, 420, 0, 1, 2, 3, 4, 5, 6, 7);
        path(x, 7, 0, 420, 7, 6, 5, 4, 3, 2, 1, 0);
        x.send(0, 0, 7, 0);
        Due.due("nothing", x.step(300), 0);
        Due.due("it comes in minute 420", x.step(120), 0);
        Due.due("now", x.step(1), 1);
        where(x, "come", 0, 3, 7, 420);
    }

    private static void sends() {
        TelegraphHouse x = Due.net(3, 3);
        x.line(0, 1, 5, 0, 0);
        Due.due("unknown message", x.send(3, 0, 1, 9), UNKNOWN);
        Due.due("unknown message below", x.send(-1, 0, 1, 9), UNKNOWN);
        Due.due("unknown a", x.send(0, 3, 1, 9), UNKNOWN);
        Due.due("unknown b", x.send(0, 0, -1, 9), UNKNOWN);
        Due.due("priority below", x.send(0, 0, 0, -1), OUTSIDE);
        Due.due("priority above", x.send(0, 0, 0, 3), OUTSIDE);
        Due.due("a is b", x.send(0, 1, 1, 0), STATE);
        Due.due("no path", x.send(0, 0, 2, 0), STATE);
        where(x, "not sent", 0, 0, NONE, NONE);
        Due.due("first", x.send(2, 0, 1, 0), 1);
        Due.due("it was sent", x.send(2, 0, 1, 0), STATE);
        Due.due("second", x.send(0, 1, 0, 2), 2);
        where(x, "sent", 0, 1, 1, NONE);
        Due.due("where outside", x.where(0, 4), OUTSIDE);
        Due.due("where outside below", x.where(0, -1), OUTSIDE);
        Due.due("where unknown", x.where(3, 4), UNKNOWN);
        Due.due("where unknown below", x.where(-1, 0), UNKNOWN);
        x.step(10);
        Due.due("has come: it was sent", x.send(2, 0, 1, 0), STATE);
    }

    private static void steps() {
        TelegraphHouse x = new TelegraphHouse();
        Due.due("0", x.step(0), OUTSIDE);
        Due.due("below", x.step(-5), OUTSIDE);
        Due.due("above", x.step(301), OUTSIDE);
        Due.due("1", x.step(1), 0);
        Due.due("clock", x.clock(), 1);
        for (int i = 0; i < 19; i++) {
            x.step(300);
        }
        Due.due("5701", x.clock(), 5701);
        Due.due("full", x.step(300), FULL);
        Due.due("as it was", x.clock(), 5701);
        Due.due("outside ahead of full", x.step(301), OUTSIDE);
        Due.due("up to 6000", x.step(299), 0);
        Due.due("6000", x.clock(), 6000);
        Due.due("full by 1", x.step(1), FULL);
    }

    private static void oneRun() {
        TelegraphHouse x = Due.net(2, 1);
        x.line(0, 1, 3, 0, 0);
        x.send(0, 0, 1, 1);
        where(x, "waits", 0, 1, 0, NONE);
        Due.due("minute 0", x.step(1), 0);
        where(x, "runs", 0, 2, 0, NONE);
        Due.due("minutes 1, 2", x.step(2), 0);
        where(x, "runs still", 0, 2, 0, NONE);
        Due.due("minute 3", x.step(1), 1);
        where(x, "has come", 0, 3, 1, 3);
        Due.due("lost", x.where(0, 3), 0);
        Due.due("not again", x.step(10), 0);
        where(x, "stays", 0, 3, 1, 3);
    }

    /** What comes to a station goes on in the same minute, if its line is free. */
    private static void twoLegs() {
        TelegraphHouse x = Due.net(3, 2);
        x.line(2, 1, 4, 0, 0);
        x.line(0, 1, 3, 0, 0);
        x.send(0, 0, 2, 0);
        x.send(1, 0, 2, 0);
        x.step(3);
        where(x, "runs on 1", 0, 2, 1, NONE);
        where(x, "waits for it", 1, 1, 0, NONE);
        x.step(1);
        where(x, "runs on 0", 0, 2, 0, NONE);
        where(x, "runs on 1 now", 1, 2, 1, NONE);
        x.step(3);
        where(x, "runs on 0 still", 0, 2, 0, NONE);
        where(x, "came to 1 and waits", 1, 1, 1, NONE);
        Due.due("comes at 7", x.step(1), 1);
        where(x, "first", 0, 3, 2, 7);
        where(x, "begins where the first one ended", 1, 2, 0, NONE);
    }

    /** Each way of a line carries one at a time, whoever runs the other way. */
    private static void bothWays() {
        TelegraphHouse x = Due.net(2, 3);
        x.line(0, 1, 3, 0, 0);
        x.send(0, 0, 1, 0);
        x.send(1, 1, 0, 0);
        x.send(2, 1, 0, 0);
        x.step(1);
        where(x, "forth", 0, 2, 0, NONE);
        where(x, "back", 1, 2, 0, NONE);
        where(x, "waits", 2, 1, 1, NONE);
        Due.due("two come", x.step(3), 2);
        where(x, "runs", 2, 2, 0, NONE);
        Due.due("one comes", x.step(3), 1);
        where(x, "came", 2, 3, 0, 6);
    }

    private static void hours() {
        TelegraphHouse x = Due.net(2, 2);
        x.line(0, 1, 50, 1, 2);
        x.send(0, 0, 1, 0);
        x.send(1, 0, 1, 0);
        x.step(60);
        where(x, "closed in hour 0", 0, 1, 0, NONE);
        x.step(1);
        where(x, "begins at 60", 0, 2, 0, NONE);
        Due.due("comes at 110", x.step(50), 1);
        where(x, "came", 0, 3, 1, 110);
        where(x, "begins at 110", 1, 2, 0, NONE);
        x.step(49);
        Due.due("a run goes on when the line is shut", x.step(1), 1);
        where(x, "came too", 1, 3, 1, 160);
        shutAgain();
    }

    private static void shutAgain() {
        TelegraphHouse x = Due.net(2, 1);
        x.line(0, 1, 1, 0, 1);
        x.step(60);
        x.send(0, 1, 0, 0);
        for (int i = 0; i < 4; i++) {
            x.step(300);
        }
        x.step(180);
        Due.due("clock", x.clock(), 1440);
        where(x, "shut all day", 0, 1, 1, NONE);
        Due.due("a day later", x.step(2), 1);
        where(x, "came", 0, 3, 0, 1441);
    }

    private static void overMidnight() {
        TelegraphHouse x = Due.net(2, 2);
        x.line(0, 1, 1, 23, 1);
        x.step(59);
        x.send(0, 0, 1, 0);
        Due.due("open in hour 0", x.step(2), 1);
        x.send(1, 0, 1, 0);
        for (int i = 0; i < 4; i++) {
            Due.due("shut", x.step(300), 0);
        }
        Due.due("shut up to 1380", x.step(1380 - x.clock()), 0);
        Due.due("open in hour 23", x.step(2), 1);
        where(x, "came", 1, 3, 1, 1381);
    }

    private static void priorities() {
        TelegraphHouse x = Due.net(2, 5);
        x.line(0, 1, 1, 0, 0);
        x.send(3, 0, 1, 0);
        x.send(4, 0, 1, 1);
        x.send(1, 0, 1, 2);
        x.send(0, 0, 1, 1);
        x.send(2, 0, 1, 2);
        int[] order = {1, 2, 4, 0, 3};
        for (int k = 0; k < 5; k++) {
            Due.due("queue " + k, x.queue(0, k), order[k]);
        }
        x.step(6);
        for (int k = 0; k < 5; k++) {
            Due.due("came " + order[k], x.where(order[k], 2), k + 1);
        }
    }

    private static void queues() {
        TelegraphHouse x = Due.net(3, 3);
        x.line(0, 1, 2, 0, 0);
        x.line(0, 2, 2, 0, 0);
        Due.due("none", x.queue(0, 0), NONE);
        x.send(2, 0, 1, 0);
        x.send(0, 0, 2, 0);
        Due.due("all that wait there, for any line", x.queue(0, 0), 2);
        Due.due("second", x.queue(0, 1), 0);
        Due.due("no third", x.queue(0, 2), NONE);
        Due.due("below", x.queue(0, -1), NONE);
        Due.due("far above", x.queue(0, 1000000), NONE);
        Due.due("elsewhere", x.queue(1, 0), NONE);
        Due.due("unknown", x.queue(3, 0), UNKNOWN);
        Due.due("unknown below", x.queue(-1, 0), UNKNOWN);
        x.step(1);
        Due.due("they run", x.queue(0, 0), NONE);
        x.step(2);
        Due.due("who has come does not wait", x.queue(1, 0), NONE);
    }

    private static void losses() {
        TelegraphHouse x = Due.net(2, 3);
        x.line(0, 1, 4, 0, 0);
        Due.due("unknown", x.lose(1), UNKNOWN);
        Due.due("unknown below", x.lose(-1), UNKNOWN);
        for (int m = 0; m < 3; m++) {
            x.send(m, 0, 1, 0);
        }
        x.step(1);
        Due.due("one", x.lose(0), 1);
        Due.due("two", x.lose(0), 2);
        Due.due("who ran is not lost", x.step(4), 1);
        Due.due("the next one began: one is left", x.lose(0), 2);
        where(x, "runs as others do", 1, 2, 0, NONE);
        Due.due("nobody comes", x.step(4), 0);
        where(x, "lost", 1, 4, 0, NONE);
        Due.due("how often", x.where(1, 3), 1);
        Due.due("nobody comes again", x.step(4), 0);
        where(x, "lost too", 2, 4, 0, NONE);
        Due.due("one is left still", x.lose(0), 2);
        Due.due("two lost", x.count(8), 2);
    }

    private static void lossesEitherWay() {
        TelegraphHouse x = Due.net(3, 3);
        x.line(0, 1, 9, 0, 0);
        x.line(1, 2, 1, 0, 0);
        x.lose(0);
        x.send(0, 1, 0, 2);
        x.send(1, 0, 1, 0);
        x.send(2, 1, 2, 0);
        Due.due("another line loses none", x.step(10), 2);
        where(x, "the first way begins first", 1, 4, 0, NONE);
        where(x, "the other way came", 0, 3, 0, 9);
        x.lose(0);
        Due.message(x, "a");
        x.send(3, 1, 0, 0);
        x.step(10);
        where(x, "the other way is lost", 3, 4, 0, NONE);
    }

    private static void asking() {
        TelegraphHouse x = Due.net(3, 5);
        x.line(0, 1, 2, 0, 0);
        x.line(1, 2, 2, 0, 0);
        Due.due("unknown", x.ask(3), UNKNOWN);
        Due.due("unknown below", x.ask(-1), UNKNOWN);
        Due.due("none", x.ask(2), 0);
        x.lose(1);
        x.lose(1);
        x.lose(0);
        x.send(3, 0, 2, 0);
        x.step(20);
        where(x, "lost on its first line", 3, 4, 0, NONE);
        x.send(1, 1, 2, 0);
        x.send(0, 0, 2, 1);
        x.step(20);
        where(x, "lost on its second line", 0, 4, 1, NONE);
        where(x, "lost", 1, 4, 1, NONE);
        x.send(4, 0, 1, 0);
        Due.due("not on their way to 1", x.ask(1), 0);
        Due.due("three", x.ask(2), 3);
        Due.due("none are lost now", x.ask(2), 0);
        where(x, "waits at its first station", 0, 1, 0, NONE);
        where(x, "waits at its first station too", 1, 1, 1, NONE);
        Due.due("it was lost once", x.where(0, 3), 1);
        // By priority, then as they were sent: 4 was sent ahead of what was asked for.
        Due.due("queue 0", x.queue(0, 0), 0);
        Due.due("queue 1", x.queue(0, 1), 4);
        Due.due("queue 2", x.queue(0, 2), 3);
        Due.due("five messages sent, three of them asked for again", x.send(2, 0, 1, 2), 5);
        x.step(30);
        Due.due("all came", x.count(7), 5);
        x.step(1);
        byNumber();
    }

    /** Asked for at once, they wait by number, however they were sent. */
    private static void byNumber() {
        TelegraphHouse x = Due.net(2, 3);
        x.line(0, 1, 1, 0, 0);
        for (int m = 2; m >= 0; m--) {
            x.lose(0);
            x.send(m, 0, 1, 1);
        }
        x.step(10);
        Due.due("three lost", x.ask(1), 3);
        for (int m = 0; m < 3; m++) {
            Due.due("queue by number " + m, x.queue(0, m), m);
        }
        x.lose(0);
        x.step(10);
        Due.due("lost twice", x.where(0, 3), 2);
        Due.due("asked for again", x.ask(1), 1);
        x.step(10);
        where(x, "came", 0, 3, 1, 21);
    }

    /** What send() answers are messages; the ledger has what was asked for again as one more. */
    private static void askedForIsNoMessageMore() {
        TelegraphHouse x = Due.net(3, 4);
        x.line(0, 1, 1, 0, 0);
        Due.due("first", x.send(2, 0, 1, 0), 1);
        for (int i = 1; i <= 3; i++) {
            x.lose(0);
            x.step(2);
            Due.due("asked for " + i, x.ask(1), 1);
            Due.due("sent by the ledger " + i, x.ledger(0, 0), 1 + i);
        }
        Due.due("second", x.send(3, 0, 1, 0), 2);
        Due.due("refused: no path", x.send(0, 0, 2, 0), STATE);
        Due.due("refused: it was sent", x.send(2, 0, 1, 0), STATE);
        x.lose(0);
        x.step(2);
        Due.due("lost", x.count(8), 1);
        Due.due("third, the first one being lost", x.send(0, 0, 1, 0), 3);
        x.step(9);
        Due.due("two came", x.count(7), 2);
        Due.due("asked for at last", x.ask(1), 1);
        Due.due("fourth, two having come", x.send(1, 1, 0, 0), 4);
        Due.due("seven by the ledger of 0", x.ledger(0, 0), 7);
        Due.due("one by the ledger of 1", x.ledger(1, 0), 1);
        orderGoesOn();
    }

    /** What is asked for again is no message more, but it waits behind all that were sent ahead. */
    private static void orderGoesOn() {
        TelegraphHouse x = Due.net(2, 3);
        x.line(0, 1, 1, 0, 0);
        x.lose(0);
        Due.due("first", x.send(1, 0, 1, 0), 1);
        x.step(2);
        Due.due("second", x.send(2, 0, 1, 0), 2);
        Due.due("the first one again", x.ask(1), 1);
        Due.due("third", x.send(0, 0, 1, 0), 3);
        int[] order = {2, 1, 0};
        for (int k = 0; k < 3; k++) {
            Due.due("queue as they were sent " + k, x.queue(0, k), order[k]);
        }
        x.step(4);
        for (int k = 0; k < 3; k++) {
            Due.due("came as they were sent " + k, x.where(order[k], 2), 3 + k);
        }
    }

    private static void askingByNewPath() {
        TelegraphHouse x = Due.net(3, 1);
        x.line(0, 1, 9, 0, 0);
        x.lose(0);
        x.send(0, 0, 1, 0);
        x.step(10);
        x.line(0, 2, 2, 0, 0);
        x.line(2, 1, 2, 0, 0);
        Due.due("asked", x.ask(1), 1);
        x.step(1);
        where(x, "by the path of then", 0, 2, 1, NONE);
        x.step(4);
        where(x, "came", 0, 3, 1, 14);
    }

    /** A message keeps the path, and its lines, as they were when it was sent. */
    private static void keptPath() {
        TelegraphHouse x = Due.net(3, 2);
        x.line(0, 1, 5, 0, 0);
        x.line(1, 2, 20, 0, 0);
        x.send(0, 0, 2, 0);
        x.line(0, 2, 1, 0, 0);
        x.line(1, 2, 3, 0, 0);
        x.send(1, 0, 2, 0);
        x.step(6);
        where(x, "the later one", 1, 3, 2, 1);
        where(x, "the earlier one", 0, 2, 1, NONE);
        x.step(20);
        where(x, "the earlier one came", 0, 3, 2, 25);
        likeLines();
    }

    /** Of several lines between two: the quickest, of like ones the lesser. */
    private static void likeLines() {
        TelegraphHouse x = Due.net(2, 2);
        x.line(0, 1, 9, 0, 0);
        x.line(1, 0, 4, 0, 0);
        x.line(0, 1, 4, 0, 0);
        x.send(0, 0, 1, 0);
        x.send(1, 0, 1, 0);
        x.step(1);
        where(x, "line 1", 0, 2, 1, NONE);
        where(x, "waits for line 1 though 2 is free", 1, 1, 0, NONE);
    }

    private static void ledgers() {
        TelegraphHouse x = Due.withBook(0, 1);
        for (int i = 0; i < 3; i++) {
            x.station();
        }
        x.line(0, 1, 1, 0, 0);
        x.line(1, 2, 1, 0, 0);
        Due.message(x, "abcdefghijkl 5");
        Due.message(x, "abcdefghijkl 5");
        Due.message(x, "a");
        x.condense(1, 0);
        x.send(0, 0, 2, 0);
        x.send(1, 0, 2, 0);
        x.send(2, 1, 0, 0);
        ledger(x, 0, 2, 0, 8, 0);
        ledger(x, 1, 1, 0, 1, 0);
        x.lose(1);
        x.step(20);
        ledger(x, 0, 2, 1, 8, 2);
        ledger(x, 1, 1, 0, 1, 3);
        ledger(x, 2, 0, 1, 0, 0);
        x.ask(2);
        x.step(20);
        ledger(x, 0, 3, 1, 11, 3);
        ledger(x, 1, 1, 0, 1, 4);
        ledger(x, 2, 0, 2, 0, 0);
        Due.due("unknown", x.ledger(3, 9), UNKNOWN);
        Due.due("unknown below", x.ledger(-1, 0), UNKNOWN);
        Due.due("outside", x.ledger(0, 4), OUTSIDE);
        Due.due("outside below", x.ledger(0, -1), OUTSIDE);
    }

    private static void ledger(TelegraphHouse x, int station, int... want) {
        for (int what = 0; what < want.length; what++) {
            Due.due("ledger(" + station + ", " + what + ")", x.ledger(station, what), want[what]);
        }
    }

    private static void counts() {
        TelegraphHouse x = Due.net(3, 6);
        x.book(0, 1);
        x.book(0, 1);
        x.line(0, 1, 2, 0, 0);
        Due.feed(x, "abcd");
        x.lose(0);
        for (int m = 0; m < 5; m++) {
            x.send(m, 0, 1, 0);
        }
        counts(x, 2, 6, 3, 1, 4, 5, 0, 0, 0);
        x.step(5);
        counts(x, 2, 6, 3, 1, 4, 2, 1, 1, 1);
        Due.due("outside", x.count(9), OUTSIDE);
        Due.due("outside below", x.count(-1), OUTSIDE);
    }

    private static void counts(TelegraphHouse x, int... want) {
        for (int what = 0; what < want.length; what++) {
            Due.due("count(" + what + ")", x.count(what), want[what]);
        }
    }
}
