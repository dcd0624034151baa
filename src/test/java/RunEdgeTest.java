/** Part 6, MESSAGES in THE NET, and promises 28 to 36: each sentence with a bound has its test. */
public final class RunEdgeTest {
    private static final int UNKNOWN = TelegraphHouse.UNKNOWN;
    private static final int OUTSIDE = TelegraphHouse.OUTSIDE;
    private static final int STATE = TelegraphHouse.STATE;
    private static final int FULL = TelegraphHouse.FULL;
    private static final int NONE = TelegraphHouse.NONE;
    private static final int LEAST = Integer.MIN_VALUE;
    private static final int MOST = Integer.MAX_VALUE;

    private static final int NOT_SENT = 0;
    private static final int WAITS = 1;
    private static final int RUNS = 2;
    private static final int HAS_COME = 3;
    private static final int LOST = 4;

    public static void main(String[] args) {
        waitsAtItsFirstStation();
        beginsInTheMinuteOfNow();
        endsAsManyMinutesLater();
        goesOnInTheSameMinute();
        wayIsFreeInTheSameMinute();
        oneRunsEachWay();
        endsThoughShut();
        shutBetweenTwoRuns();
        greatestPriority();
        sentFirstOfLikeOnes();
        sentFirstThoughItCameLater();
        waitsForItsOwnLine();
        pathAsItWasThen();
        losesTheNextThatBegins();
        losesEitherWay();
        losesEachTimeOne();
        losesOnItsOwnLine();
        loseManyTimes();
        loseBounds();
        lostIsNotCome();
        lostAndAskedFor();
        lostOften();
        askedByNumber();
        askedByThePathOfThen();
        askedAsIfSentThen();
        askForItsOwn();
        sendUnknown();
        sendPriority();
        sendState();
        sendCounts();
        stepBounds();
        stepFull();
        theLastMinute();
        stepsTogether();
        comeInThem();
        clockGoesOn();
        whereBounds();
        whereNone();
        queueBounds();
        queueOrder();
        ledgerBounds();
        ledgerSent();
        ledgerCome();
        ledgerCounts();
        ledgerRuns();
        countBounds();
        countStates();
        Due.end();
    }

    private static void where(TelegraphHouse x, String when, int message, int state, int place, int came) {
        Due.due(when + ": how " + message + " is", x.where(message, 0), state);
        Due.due(when + ": the place of " + message, x.where(message, 1), place);
        Due.due(when + ": the minute of " + message, x.where(message, 2), came);
    }

    private static void goTo(TelegraphHouse x, int minute) {
        while (x.clock() < minute) {
            x.step(Math.min(300, minute - x.clock()));
        }
    }

    private static void waitsAtItsFirstStation() {
        Due.sentence("A MESSAGE that is sent has THE PATH as it is then; it WAITS at its first STATION.");
        TelegraphHouse x = Due.net(8, 2);
        x.line(7, 3, 5, 0, 0);
        where(x, "not sent", 0, NOT_SENT, NONE, NONE);
        x.send(0, 7, 3, 0);
        x.send(1, 3, 7, 2);
        where(x, "sent", 0, WAITS, 7, NONE);
        where(x, "sent", 1, WAITS, 3, NONE);
        Due.due("they wait", x.count(5), 2);
        Due.due("none runs", x.count(6), 0);
    }

    private static void beginsInTheMinuteOfNow() {
        Due.sentence("In each MINUTE: .. of each LINE and way that is open and on which nobody runs");
        for (int at : new int[] {0, 1, 77}) {
            TelegraphHouse x = Due.net(2, 1);
            x.line(0, 1, 5, 0, 0);
            goTo(x, at);
            x.send(0, 0, 1, 0);
            x.step(1);
            where(x, "sent in " + at, 0, RUNS, 0, NONE);
            Due.due("comes", x.step(5), 1);
            where(x, "sent in " + at, 0, HAS_COME, 1, at + 5);
        }
    }

    private static void endsAsManyMinutesLater() {
        Due.sentence("begins its run: it ends as many MINUTES later");
        for (int minutes : new int[] {1, 2, 30, 59, 60}) {
            TelegraphHouse x = Due.net(2, 1);
            x.line(0, 1, minutes, 0, 0);
            x.send(0, 1, 0, 0);
            Due.due("the minutes of the run", x.step(minutes), 0);
            where(x, "runs for " + minutes, 0, RUNS, 0, NONE);
            Due.due("its end", x.step(1), 1);
            where(x, "ran for " + minutes, 0, HAS_COME, 0, minutes);
        }
    }

    /** First runs end, then runs begin: also if the line that it goes on by has the lesser number. */
    private static void goesOnInTheSameMinute() {
        Due.sentence("WAITS there, or HAS COME, if that is the last one of its PATH");
        TelegraphHouse upward = Due.net(3, 1);
        upward.line(0, 1, 3, 0, 0);
        upward.line(1, 2, 4, 0, 0);
        goesOn(upward, 0, 1);
        TelegraphHouse downward = Due.net(3, 1);
        downward.line(2, 1, 4, 0, 0);
        downward.line(1, 0, 3, 0, 0);
        goesOn(downward, 1, 0);
    }

    private static void goesOn(TelegraphHouse x, int firstLine, int nextLine) {
        x.send(0, 0, 2, 0);
        x.step(3);
        where(x, "the first run", 0, RUNS, firstLine, NONE);
        x.step(1);
        where(x, "the second run", 0, RUNS, nextLine, NONE);
        Due.due("not yet", x.step(3), 0);
        Due.due("it comes", x.step(1), 1);
        where(x, "come", 0, HAS_COME, 2, 7);
    }

    private static void wayIsFreeInTheSameMinute() {
        Due.sentence("first, .. who ends its run on it in this MINUTE .. Then, likewise, .. begins its run");
        TelegraphHouse x = Due.net(2, 3);
        x.line(0, 1, 2, 0, 0);
        for (int m = 0; m < 3; m++) {
            x.send(m, 0, 1, 0);
        }
        x.step(2);
        where(x, "minute 1", 0, RUNS, 0, NONE);
        where(x, "minute 1", 1, WAITS, 0, NONE);
        Due.due("minute 2", x.step(1), 1);
        where(x, "minute 2", 0, HAS_COME, 1, 2);
        where(x, "minute 2", 1, RUNS, 0, NONE);
        Due.due("the others", x.step(4), 2);
        where(x, "minute 4", 1, HAS_COME, 1, 4);
        where(x, "minute 6", 2, HAS_COME, 1, 6);
    }

    private static void oneRunsEachWay() {
        Due.sentence("of each the way from its first STATION, then the other way");
        TelegraphHouse x = Due.net(2, 4);
        x.line(1, 0, 5, 0, 0);
        x.send(0, 0, 1, 0);
        x.send(1, 0, 1, 0);
        x.send(2, 1, 0, 0);
        x.send(3, 1, 0, 0);
        x.step(5);
        int[] states = {RUNS, WAITS, RUNS, WAITS};
        for (int m = 0; m < 4; m++) {
            Due.due("how " + m + " is", x.where(m, 0), states[m]);
        }
        Due.due("two come", x.step(1), 2);
        Due.due("the other two", x.step(5), 2);
    }

    private static void endsThoughShut() {
        Due.sentence("who ends its run on it in this MINUTE comes to the STATION there");
        TelegraphHouse x = Due.net(3, 1);
        x.line(0, 1, 60, 0, 1);
        x.line(1, 2, 1, 0, 2);
        goTo(x, 59);
        x.send(0, 0, 2, 0);
        x.step(1);
        where(x, "begins in the last minute", 0, RUNS, 0, NONE);
        goTo(x, 119);
        where(x, "runs on, though it is shut", 0, RUNS, 0, NONE);
        x.step(1);
        where(x, "ends, and begins in the other's last minute", 0, RUNS, 1, NONE);
        Due.due("comes, though both are shut", x.step(1), 1);
        where(x, "come", 0, HAS_COME, 2, 120);
    }

    private static void shutBetweenTwoRuns() {
        Due.sentence("of each LINE and way that is open");
        TelegraphHouse x = Due.net(2, 2);
        x.line(0, 1, 10, 0, 1);
        goTo(x, 50);
        x.send(0, 0, 1, 0);
        x.send(1, 0, 1, 0);
        x.step(11);
        where(x, "come", 0, HAS_COME, 1, 60);
        where(x, "it is shut now", 1, WAITS, 0, NONE);
        goTo(x, 1440);
        where(x, "it waits all day", 1, WAITS, 0, NONE);
        x.step(1);
        where(x, "the next day", 1, RUNS, 0, NONE);
    }

    private static void greatestPriority() {
        Due.sentence("of those that WAIT there for it the one of the greatest PRIORITY");
        TelegraphHouse x = Due.net(2, 4);
        x.line(0, 1, 1, 0, 0);
        x.send(0, 0, 1, 0);
        x.send(1, 0, 1, 1);
        x.send(2, 0, 1, 2);
        x.step(2);
        where(x, "priority 2", 2, HAS_COME, 1, 1);
        where(x, "priority 1", 1, RUNS, 0, NONE);
        // One of greater priority that is sent later goes ahead of one that waits.
        x.send(3, 0, 1, 2);
        x.step(2);
        where(x, "sent last", 3, HAS_COME, 1, 3);
        where(x, "priority 0", 0, RUNS, 0, NONE);
    }

    private static void sentFirstOfLikeOnes() {
        Due.sentence("of like ones the one that was sent first");
        for (int priority = 0; priority < 3; priority++) {
            TelegraphHouse x = Due.net(2, 30);
            x.line(0, 1, 1, 0, 0);
            for (int i = 0; i < 30; i++) {
                x.send(7 * i % 30, 0, 1, priority);
            }
            x.step(31);
            for (int i = 0; i < 30; i++) {
                Due.due("message " + 7 * i % 30, x.where(7 * i % 30, 2), i + 1);
            }
        }
    }

    /** 2 keeps line 1 busy; 1 waits there all the time, but 0, which comes later, was sent first. */
    private static void sentFirstThoughItCameLater() {
        Due.sentence("of like ones the one that was sent first begins its run");
        TelegraphHouse x = Due.net(3, 4);
        x.line(0, 1, 5, 0, 0);
        x.line(1, 2, 9, 0, 0);
        x.send(2, 1, 2, 0);
        x.send(0, 0, 2, 0);
        x.send(1, 1, 2, 0);
        x.step(6);
        Due.due("queue 0", x.queue(1, 0), 0);
        Due.due("queue 1", x.queue(1, 1), 1);
        x.step(4);
        where(x, "sent first", 0, RUNS, 1, NONE);
        where(x, "was there first", 1, WAITS, 1, NONE);
        // Priority goes ahead of that.
        x.send(3, 1, 2, 1);
        x.step(9);
        where(x, "greater priority", 3, RUNS, 1, NONE);
        where(x, "waits still", 1, WAITS, 1, NONE);
    }

    private static void waitsForItsOwnLine() {
        Due.sentence("of those that WAIT there for it");
        TelegraphHouse x = Due.net(3, 3);
        x.line(0, 1, 9, 0, 0);
        x.line(0, 1, 10, 0, 0);
        x.line(0, 2, 9, 0, 0);
        x.send(0, 0, 1, 0);
        x.send(1, 0, 1, 2);
        x.send(2, 0, 2, 0);
        x.step(1);
        where(x, "for line 0", 1, RUNS, 0, NONE);
        where(x, "for line 0 too, though line 1 is free", 0, WAITS, 0, NONE);
        where(x, "for line 2, though its priority is less", 2, RUNS, 2, NONE);
    }

    private static void pathAsItWasThen() {
        Due.sentence("A MESSAGE that is sent has THE PATH as it is then");
        TelegraphHouse x = Due.net(3, 2);
        x.line(0, 1, 4, 0, 0);
        x.line(1, 2, 4, 0, 0);
        x.send(0, 0, 2, 0);
        x.line(0, 2, 1, 0, 0);
        x.send(1, 0, 2, 0);
        Due.due("the path now", x.far(0, 2), 1);
        Due.due("the one of now comes", x.step(2), 1);
        where(x, "the path of now", 1, HAS_COME, 2, 1);
        where(x, "the path of then", 0, RUNS, 0, NONE);
        Due.due("the one of then comes", x.step(7), 1);
        where(x, "the path of then", 0, HAS_COME, 2, 8);
    }

    private static void losesTheNextThatBegins() {
        Due.sentence("A LINE that is to lose loses the next one that begins a run on it");
        TelegraphHouse x = Due.net(2, 3);
        x.line(0, 1, 3, 0, 0);
        for (int m = 0; m < 3; m++) {
            x.send(m, 0, 1, 0);
        }
        x.step(1);
        Due.due("lose", x.lose(0), 1);
        Due.due("who runs already comes", x.step(3), 1);
        where(x, "not lost", 0, HAS_COME, 1, 3);
        where(x, "it runs up to its end", 1, RUNS, 0, NONE);
        x.step(2);
        where(x, "it still runs", 1, RUNS, 0, NONE);
        Due.due("nobody comes", x.step(1), 0);
        where(x, "lost at its end", 1, LOST, 0, NONE);
        Due.due("the third comes", x.step(3), 1);
        where(x, "not lost", 2, HAS_COME, 1, 9);
    }

    /** The way from the line's first station begins first, whatever its number or who was sent first. */
    private static void losesEitherWay() {
        Due.sentence("(either way; each time it was told, one)");
        for (int first = 0; first < 2; first++) {
            TelegraphHouse x = Due.net(2, 2);
            x.line(first, 1 - first, 3, 0, 0);
            x.lose(0);
            x.send(0, 1 - first, first, 2);
            x.send(1, first, 1 - first, 0);
            Due.due("one comes", x.step(4), 1);
            where(x, "the way from its first station", 1, LOST, 0, NONE);
            where(x, "the other way", 0, HAS_COME, first, 3);
        }
        TelegraphHouse x = Due.net(2, 1);
        x.line(0, 1, 3, 0, 0);
        x.lose(0);
        x.send(0, 1, 0, 0);
        x.step(4);
        where(x, "the other way alone", 0, LOST, 0, NONE);
        TelegraphHouse y = Due.net(2, 2);
        y.line(0, 1, 3, 0, 0);
        y.lose(0);
        y.lose(0);
        y.send(0, 0, 1, 0);
        y.send(1, 1, 0, 0);
        Due.due("both are lost", y.step(4), 0);
        Due.due("two", y.count(8), 2);
    }

    private static void losesEachTimeOne() {
        Due.sentence("each time it was told, one");
        for (int times = 0; times <= 4; times++) {
            TelegraphHouse x = Due.net(2, 3);
            x.line(0, 1, 1, 0, 0);
            for (int i = 1; i <= times; i++) {
                Due.due("lose", x.lose(0), i);
            }
            for (int m = 0; m < 3; m++) {
                x.send(m, 0, 1, 0);
            }
            Due.due("told " + times + " times: come", x.step(4), Math.max(0, 3 - times));
            Due.due("lost", x.count(8), Math.min(3, times));
            Due.due("what is left, and one more", x.lose(0), Math.max(0, times - 3) + 1);
        }
    }

    private static void losesOnItsOwnLine() {
        Due.sentence("loses the next one that begins a run on it");
        TelegraphHouse x = Due.net(3, 2);
        x.line(0, 1, 2, 0, 0);
        x.line(1, 2, 2, 0, 0);
        x.lose(1);
        x.send(0, 0, 1, 0);
        x.send(1, 0, 2, 0);
        Due.due("by line 0 alone", x.step(3), 1);
        x.step(4);
        where(x, "lost on line 1, on its way", 1, LOST, 1, NONE);
    }

    private static void loseManyTimes() {
        Due.sentence("A LINE is to lose one more: how many it is to lose.");
        TelegraphHouse x = Due.net(2, 0);
        x.line(0, 1, 1, 0, 0);
        x.line(0, 1, 1, 0, 0);
        for (int i = 1; i <= 500; i++) {
            Due.due("lose", x.lose(1), i);
        }
        Due.due("the other line", x.lose(0), 1);
    }

    private static void loseBounds() {
        Due.sentence("how many it is to lose. UNKNOWN.");
        TelegraphHouse x = Due.net(2, 0);
        Due.due("no line", x.lose(0), UNKNOWN);
        x.line(0, 1, 1, 0, 0);
        for (int l : new int[] {LEAST, -9, -1, 1, 12, MOST}) {
            Due.due("line " + l, x.lose(l), UNKNOWN);
        }
        Due.due("line 0", x.lose(0), 1);
    }

    private static void lostIsNotCome() {
        Due.sentence("or is LOST, if the LINE was to lose it");
        TelegraphHouse x = Due.net(2, 1);
        x.line(0, 1, 2, 0, 0);
        x.lose(0);
        x.send(0, 0, 1, 0);
        Due.due("how often, ahead of it", x.where(0, 3), 0);
        Due.due("nobody comes", x.step(10), 0);
        where(x, "lost", 0, LOST, 0, NONE);
        Due.due("how often", x.where(0, 3), 1);
        Due.due("none came to 1", x.ledger(1, 1), 0);
        Due.due("its run began", x.ledger(0, 3), 1);
        Due.due("it does not wait", x.queue(0, 0), NONE);
        Due.due("nor there", x.queue(1, 0), NONE);
        Due.due("it stays lost", x.step(100), 0);
    }

    private static void lostAndAskedFor() {
        Due.sentence("One that was LOST and is asked for WAITS anew at its first STATION");
        TelegraphHouse x = Due.net(3, 1);
        x.line(0, 1, 2, 0, 0);
        x.line(1, 2, 2, 0, 0);
        x.lose(1);
        x.send(0, 0, 2, 1);
        x.step(5);
        where(x, "lost on its second line", 0, LOST, 1, NONE);
        Due.due("asked for", x.ask(2), 1);
        where(x, "waits anew", 0, WAITS, 0, NONE);
        Due.due("in the queue", x.queue(0, 0), 0);
        Due.due("it comes", x.step(5), 1);
        where(x, "come", 0, HAS_COME, 2, 9);
        Due.due("lost once", x.where(0, 3), 1);
    }

    private static void lostOften() {
        Due.sentence("3 how often it was LOST");
        TelegraphHouse x = Due.net(2, 1);
        x.line(0, 1, 1, 0, 0);
        x.send(0, 0, 1, 0);
        for (int i = 1; i <= 50; i++) {
            x.lose(0);
            x.step(2);
            Due.due("lost", x.where(0, 3), i);
            Due.due("asked for", x.ask(1), 1);
        }
        Due.due("it comes at last", x.step(2), 1);
        Due.due("lost then", x.where(0, 3), 50);
        Due.due("sent from 0", x.ledger(0, 0), 51);
        Due.due("runs from 0", x.ledger(0, 3), 51);
    }

    private static void askedByNumber() {
        Due.sentence("they WAIT anew, by number");
        TelegraphHouse x = Due.net(2, 5);
        x.line(0, 1, 1, 0, 0);
        for (int m = 4; m >= 0; m--) {
            x.lose(0);
            x.send(m, 0, 1, 1);
        }
        x.step(6);
        Due.due("five", x.ask(1), 5);
        for (int k = 0; k < 5; k++) {
            Due.due("queue " + k, x.queue(0, k), k);
        }
        x.step(6);
        for (int m = 0; m < 5; m++) {
            Due.due("comes by number: " + m, x.where(m, 2), 7 + m);
        }
    }

    private static void askedByThePathOfThen() {
        Due.sentence("as if sent then (with THE PATH of then)");
        TelegraphHouse x = Due.net(3, 1);
        x.line(0, 1, 9, 0, 0);
        x.lose(0);
        x.send(0, 0, 1, 0);
        x.step(10);
        x.line(0, 2, 2, 0, 0);
        x.line(2, 1, 2, 0, 0);
        Due.due("asked for", x.ask(1), 1);
        x.step(1);
        where(x, "by the new path", 0, RUNS, 1, NONE);
        Due.due("comes", x.step(4), 1);
        where(x, "come", 0, HAS_COME, 1, 14);
        Due.due("from station 2", x.ledger(2, 3), 1);
    }

    private static void askedAsIfSentThen() {
        Due.sentence("WAITS anew at its first STATION, as if sent then");
        TelegraphHouse x = Due.net(2, 4);
        x.line(0, 1, 1, 0, 0);
        x.lose(0);
        x.send(0, 0, 1, 1);
        x.step(2);
        x.send(1, 0, 1, 1);
        x.send(2, 0, 1, 0);
        x.ask(1);
        x.send(3, 0, 1, 1);
        int[] order = {1, 0, 3, 2};
        for (int k = 0; k < 4; k++) {
            Due.due("queue " + k, x.queue(0, k), order[k]);
        }
        x.step(5);
        for (int k = 0; k < 4; k++) {
            Due.due("comes", x.where(order[k], 2), 3 + k);
        }
    }

    private static void askForItsOwn() {
        Due.sentence("A STATION asks for all that are LOST on their way to it");
        TelegraphHouse x = Due.net(3, 5);
        x.line(0, 1, 1, 0, 0);
        x.line(1, 2, 1, 0, 0);
        Due.due("none was sent", x.ask(1), 0);
        for (int i = 0; i < 3; i++) {
            x.lose(0);
        }
        x.send(0, 0, 2, 2);
        x.send(1, 0, 1, 2);
        x.send(2, 1, 0, 2);
        x.send(3, 0, 1, 0);
        x.step(10);
        Due.due("three lost", x.count(8), 3);
        Due.due("one has come", x.count(7), 1);
        x.send(4, 0, 2, 0);
        Due.due("to 2", x.ask(2), 1);
        where(x, "to 2", 0, WAITS, 0, NONE);
        where(x, "to 1", 1, LOST, 0, NONE);
        where(x, "to 0", 2, LOST, 0, NONE);
        Due.due("to 2 again: it waits", x.ask(2), 0);
        Due.due("to 0", x.ask(0), 1);
        where(x, "to 0", 2, WAITS, 1, NONE);
        Due.due("to 1", x.ask(1), 1);
        where(x, "to 1, from 0", 1, WAITS, 0, NONE);
        where(x, "what has come stays so", 3, HAS_COME, 1, x.where(3, 2));
        for (int s : new int[] {LEAST, -1, 3, 8, MOST}) {
            Due.due("ask(" + s + ")", x.ask(s), UNKNOWN);
        }
    }

    private static void sendUnknown() {
        Due.sentence("A MESSAGE is sent from a to b: how many were sent till now. UNKNOWN");
        TelegraphHouse x = Due.net(2, 1);
        x.line(0, 1, 1, 0, 0);
        for (int n : new int[] {LEAST, -9, -1, 2, 8, 30, MOST}) {
            Due.due("message " + n, x.send(n, 0, 1, 0), UNKNOWN);
            Due.due("message " + n + ", ahead of the others", x.send(n, 0, 0, 3), UNKNOWN);
            Due.due("from " + n, x.send(0, n, 1, 0), UNKNOWN);
            Due.due("to " + n, x.send(0, 0, n, 0), UNKNOWN);
            Due.due("from and to " + n, x.send(0, n, n, 3), UNKNOWN);
        }
        Due.due("message 1", x.send(1, 0, 1, 0), UNKNOWN);
        Due.due("not sent", x.where(0, 0), NOT_SENT);
        Due.due("the first", x.send(0, 0, 1, 0), 1);
    }

    private static void sendPriority() {
        Due.sentence("OUTSIDE: PRIORITY (0 .. 2)");
        TelegraphHouse x = Due.net(3, 3);
        x.line(0, 1, 1, 0, 0);
        for (int priority : new int[] {LEAST, -1, 3, 4, MOST}) {
            Due.due("priority " + priority, x.send(0, 0, 1, priority), OUTSIDE);
            Due.due("priority " + priority + ", a is b", x.send(0, 0, 0, priority), OUTSIDE);
            Due.due("priority " + priority + ", no path", x.send(0, 0, 2, priority), OUTSIDE);
        }
        Due.due("none waits", x.count(5), 0);
        for (int priority = 0; priority < 3; priority++) {
            Due.due("priority " + priority, x.send(priority, 0, 1, priority), priority + 1);
            Due.due("it was sent, priority 3", x.send(priority, 0, 1, 3), OUTSIDE);
        }
    }

    private static void sendState() {
        Due.sentence("STATE: it was sent, a is b, or there is no PATH.");
        TelegraphHouse x = Due.net(3, 1);
        x.line(0, 1, 2, 0, 0);
        for (int s = 0; s < 3; s++) {
            Due.due("a is b: " + s, x.send(0, s, s, 0), STATE);
        }
        Due.due("no path", x.send(0, 0, 2, 0), STATE);
        Due.due("no path back", x.send(0, 2, 1, 0), STATE);
        Due.due("not sent", x.where(0, 0), NOT_SENT);
        Due.due("none sent from 0", x.ledger(0, 0), 0);
        x.lose(0);
        Due.due("sent", x.send(0, 0, 1, 0), 1);
        Due.due("it waits", x.send(0, 0, 1, 0), STATE);
        x.step(1);
        Due.due("it runs", x.send(0, 0, 1, 0), STATE);
        x.step(2);
        Due.due("it is lost", x.where(0, 0), LOST);
        Due.due("it was sent, though it is lost", x.send(0, 0, 1, 0), STATE);
        x.ask(1);
        x.step(3);
        Due.due("it has come", x.where(0, 0), HAS_COME);
        Due.due("it was sent, though it has come", x.send(0, 1, 0, 0), STATE);
    }

    private static void sendCounts() {
        Due.sentence("how many were sent till now");
        TelegraphHouse x = Due.net(2, 30);
        x.line(0, 1, 1, 0, 0);
        for (int i = 0; i < 30; i++) {
            if (i % 10 == 5) {
                x.lose(0);
                x.step(2);
                x.ask(1);
                x.ask(0);
                Due.due("refused", x.send(29, 0, 1, 0), STATE);
            }
            Due.due("sent", x.send(29 - i, i % 2, 1 - i % 2, i % 3), i + 1);
        }
    }

    private static void stepBounds() {
        Due.sentence("n MINUTES (1 .. 300) go by: how many MESSAGES HAVE COME in them. OUTSIDE");
        for (int n : new int[] {LEAST, -300, -1, 0, 301, 6000, MOST}) {
            TelegraphHouse x = new TelegraphHouse();
            Due.due("step(" + n + ")", x.step(n), OUTSIDE);
            Due.due("clock", x.clock(), 0);
        }
        for (int n : new int[] {1, 2, 299, 300}) {
            TelegraphHouse x = new TelegraphHouse();
            Due.due("step(" + n + ")", x.step(n), 0);
            Due.due("clock", x.clock(), n);
        }
    }

    private static void stepFull() {
        Due.sentence("FULL: THE CLOCK would be above 6000");
        for (int left : new int[] {0, 1, 2, 299, 300}) {
            TelegraphHouse x = new TelegraphHouse();
            goTo(x, 6000 - left);
            Due.due("301, ahead of full", x.step(301), OUTSIDE);
            Due.due("0, ahead of full", x.step(0), OUTSIDE);
            if (left < 300) {
                Due.due(left + " left: one more than that", x.step(left + 1), FULL);
                Due.due(left + " left: 300", x.step(300), FULL);
                Due.due("clock", x.clock(), 6000 - left);
            }
            if (left > 0) {
                Due.due(left + " left", x.step(left), 0);
            }
            Due.due("clock at the end", x.clock(), 6000);
            Due.due("one more", x.step(1), FULL);
        }
    }

    /** Minute 5999 is the last one that goes by. */
    private static void theLastMinute() {
        Due.sentence("FULL: THE CLOCK would be above 6000");
        TelegraphHouse x = Due.net(2, 2);
        x.line(0, 1, 1, 0, 0);
        goTo(x, 5998);
        x.send(0, 0, 1, 0);
        Due.due("minute 5998", x.step(1), 0);
        x.send(1, 0, 1, 0);
        Due.due("minute 5999", x.step(1), 1);
        where(x, "come", 0, HAS_COME, 1, 5999);
        where(x, "runs", 1, RUNS, 0, NONE);
        Due.due("full", x.step(1), FULL);
        where(x, "runs for ever", 1, RUNS, 0, NONE);
        Due.due("clock", x.clock(), 6000);
    }

    /** n minutes at once are as n single ones. */
    private static void stepsTogether() {
        Due.sentence("n MINUTES (1 .. 300) go by");
        TelegraphHouse x = busy();
        TelegraphHouse y = busy();
        int come = 0;
        for (int i = 0; i < 100; i++) {
            come += y.step(1);
        }
        Due.due("together", x.step(100), come);
        for (int m = 0; m < 9; m++) {
            for (int what = 0; what < 4; what++) {
                Due.due("where(" + m + ", " + what + ")", x.where(m, what), y.where(m, what));
            }
        }
    }

    private static TelegraphHouse busy() {
        TelegraphHouse x = Due.net(4, 9);
        for (int s = 0; s < 3; s++) {
            x.line(s, s + 1, 7 + s, 0, 1 + s);
            x.lose(s);
        }
        for (int m = 0; m < 9; m++) {
            x.send(m, m % 4, (m + 1 + m / 4) % 4, m % 3);
        }
        return x;
    }

    private static void comeInThem() {
        Due.sentence("how many MESSAGES HAVE COME in them");
        TelegraphHouse x = Due.net(2, 4);
        x.line(0, 1, 3, 0, 0);
        x.send(0, 0, 1, 0);
        x.send(1, 1, 0, 0);
        x.send(2, 0, 1, 0);
        int[] want = {0, 0, 0, 2, 0, 0, 1, 0};
        for (int i = 0; i < want.length; i++) {
            Due.due("minute " + i, x.step(1), want[i]);
        }
        Due.due("all that have come", x.count(7), 3);
        x.send(3, 1, 0, 0);
        Due.due("those of before are not told again", x.step(300), 1);
    }

    private static void clockGoesOn() {
        Due.sentence("THE CLOCK is a MINUTE, 0 at first");
        TelegraphHouse x = new TelegraphHouse();
        Due.due("at first", x.clock(), 0);
        x.step(1);
        Due.due("then", x.clock(), 1);
        x.station();
        x.feed('a');
        x.message();
        x.sound(9);
        Due.due("other calls take no time", x.clock(), 1);
        goTo(x, 1441);
        Due.due("over midnight", x.clock(), 1441);
    }

    private static void whereBounds() {
        Due.sentence("3 how often it was LOST. UNKNOWN; OUTSIDE.");
        TelegraphHouse x = Due.net(2, 1);
        for (int m : new int[] {LEAST, -9, -1, 1, 30, MOST}) {
            for (int what = -1; what <= 4; what++) {
                Due.due("where(" + m + ", " + what + ")", x.where(m, what), UNKNOWN);
            }
        }
        for (int what : new int[] {LEAST, -1, 4, 5, MOST}) {
            Due.due("where(0, " + what + ")", x.where(0, what), OUTSIDE);
        }
        int[] want = {NOT_SENT, NONE, NONE, 0};
        for (int what = 0; what < 4; what++) {
            Due.due("where(0, " + what + ")", x.where(0, what), want[what]);
        }
    }

    private static void whereNone() {
        Due.sentence("the LINE on which it runs, was LOST (NONE); 2 the MINUTE in which it HAS COME (NONE)");
        TelegraphHouse x = Due.net(8, 1);
        for (int l = 0; l < 11; l++) {
            x.line(0, 1, 60, 0, 0);
        }
        x.line(5, 6, 2, 0, 0);
        where(x, "not sent", 0, NOT_SENT, NONE, NONE);
        x.lose(11);
        x.send(0, 6, 5, 0);
        where(x, "waits", 0, WAITS, 6, NONE);
        x.step(1);
        where(x, "runs", 0, RUNS, 11, NONE);
        x.step(2);
        where(x, "lost", 0, LOST, 11, NONE);
        x.ask(5);
        where(x, "asked for", 0, WAITS, 6, NONE);
        x.step(3);
        where(x, "come", 0, HAS_COME, 5, 5);
        x.step(50);
        where(x, "come, and later", 0, HAS_COME, 5, 5);
    }

    private static void queueBounds() {
        Due.sentence("MESSAGE k of those that WAIT at a STATION .. NONE. UNKNOWN.");
        TelegraphHouse x = Due.net(2, 3);
        x.line(0, 1, 5, 0, 0);
        Due.due("nobody waits", x.queue(0, 0), NONE);
        x.send(2, 0, 1, 0);
        x.send(1, 0, 1, 0);
        for (int k : new int[] {LEAST, -1, 2, 3, 30, MOST}) {
            Due.due("queue(0, " + k + ")", x.queue(0, k), NONE);
            Due.due("queue(2, " + k + ")", x.queue(2, k), UNKNOWN);
            Due.due("queue(-1, " + k + ")", x.queue(-1, k), UNKNOWN);
        }
        Due.due("queue(0, 0)", x.queue(0, 0), 2);
        Due.due("queue(0, 1)", x.queue(0, 1), 1);
        Due.due("queue(1, 0)", x.queue(1, 0), NONE);
        x.step(1);
        Due.due("who runs does not wait", x.queue(0, 0), 1);
        Due.due("one alone", x.queue(0, 1), NONE);
        x.step(5);
        Due.due("who has come does not wait", x.queue(1, 0), NONE);
    }

    private static void queueOrder() {
        Due.sentence("by PRIORITY, then as they were sent");
        TelegraphHouse x = Due.net(3, 9);
        x.line(0, 1, 5, 0, 0);
        x.line(0, 2, 5, 0, 0);
        int[] sent = {8, 3, 5, 0, 7, 1, 2, 6, 4};
        for (int i = 0; i < 9; i++) {
            x.send(sent[i], 0, 1 + i % 2, i % 3);
        }
        int[] order = {5, 1, 4, 3, 7, 6, 8, 0, 2};
        for (int k = 0; k < 9; k++) {
            Due.due("queue " + k, x.queue(0, k), order[k]);
        }
    }

    private static void ledger(TelegraphHouse x, String when, int station, int... want) {
        for (int what = 0; what < want.length; what++) {
            Due.due(when + ": ledger(" + station + ", " + what + ")", x.ledger(station, what), want[what]);
        }
    }

    private static void ledgerBounds() {
        Due.sentence("3 runs that began at it. UNKNOWN; OUTSIDE.");
        TelegraphHouse x = Due.net(2, 0);
        for (int s : new int[] {LEAST, -1, 2, 8, MOST}) {
            for (int what = -1; what <= 4; what++) {
                Due.due("ledger(" + s + ", " + what + ")", x.ledger(s, what), UNKNOWN);
            }
        }
        for (int what : new int[] {LEAST, -1, 4, 5, MOST}) {
            Due.due("ledger(1, " + what + ")", x.ledger(1, what), OUTSIDE);
            Due.due("ledger(0, " + what + ")", x.ledger(0, what), OUTSIDE);
        }
        ledger(x, "at first", 0, 0, 0, 0, 0);
        ledger(x, "at first", 1, 0, 0, 0, 0);
    }

    private static void ledgerSent() {
        Due.sentence("0 MESSAGES sent from it (asked for again: as one more)");
        TelegraphHouse x = Due.net(3, 4);
        x.line(0, 1, 1, 0, 0);
        x.line(1, 2, 1, 0, 0);
        x.lose(1);
        x.send(0, 0, 2, 0);
        x.send(1, 0, 1, 0);
        x.send(2, 2, 0, 0);
        Due.due("refused", x.send(3, 0, 0, 0), STATE);
        Due.due("from 0", x.ledger(0, 0), 2);
        Due.due("from 2", x.ledger(2, 0), 1);
        x.step(10);
        Due.due("from 0, when one is lost", x.ledger(0, 0), 2);
        // Line 1 lost the one from 2, whose run on it began first.
        Due.due("asked for by 0", x.ask(0), 1);
        Due.due("from 2, one more", x.ledger(2, 0), 2);
        Due.due("from 0, as many", x.ledger(0, 0), 2);
        Due.due("none from 1, where it went on", x.ledger(1, 0), 0);
    }

    private static void ledgerCome() {
        Due.sentence("1 that HAVE COME to it");
        TelegraphHouse x = Due.net(3, 3);
        x.line(0, 1, 1, 0, 0);
        x.line(1, 2, 1, 0, 0);
        x.lose(0);
        x.send(0, 0, 2, 2);
        x.send(1, 0, 2, 1);
        x.send(2, 0, 1, 0);
        x.step(10);
        Due.due("to 2", x.ledger(2, 1), 1);
        Due.due("to 1, where one goes on and one has come", x.ledger(1, 1), 1);
        Due.due("to 0", x.ledger(0, 1), 0);
    }

    private static void ledgerCounts() {
        Due.sentence("2 the COUNTS of those sent from it, together (as they were when they were sent, asked for)");
        TelegraphHouse x = Due.withBook(0, 1, "one two three four");
        x.station();
        x.station();
        x.line(0, 1, 1, 0, 0);
        Due.message(x, "abcdefghijk 123456");
        Due.message(x, "carriage carriage");
        Due.message(x, "one two three four");
        Due.message(x, "a");
        x.condense(1, 0);
        x.condense(2, 0);
        int[] counts = {4, 6, 1, 1};
        int total = 0;
        x.lose(0);
        for (int m = 0; m < 4; m++) {
            x.send(m, 0, 1, 0);
            total += counts[m];
            Due.due("counts", x.ledger(0, 2), total);
        }
        x.step(5);
        Due.due("as they were", x.ledger(0, 2), 12);
        Due.due("the first one is asked for", x.ask(1), 1);
        Due.due("and its count is added again", x.ledger(0, 2), 16);
        Due.due("of the other station", x.ledger(1, 2), 0);
        // What is hurt later has as many groups.
        x.hurt(1, 0, 0, 0);
        Due.due("as they were still", x.ledger(0, 2), 16);
    }

    private static void ledgerRuns() {
        Due.sentence("3 runs that began at it");
        TelegraphHouse x = Due.net(3, 2);
        x.line(1, 0, 2, 0, 0);
        x.line(2, 1, 2, 0, 0);
        x.lose(1);
        x.send(0, 0, 2, 0);
        x.send(1, 2, 0, 0);
        Due.due("none began", x.ledger(0, 3) + x.ledger(2, 3), 0);
        x.step(1);
        int[][] runs = {{1, 0, 1}, {1, 1, 1}};
        for (int s = 0; s < 3; s++) {
            Due.due("runs from " + s + " in minute 0", x.ledger(s, 3), runs[0][s]);
        }
        x.step(10);
        for (int s = 0; s < 3; s++) {
            Due.due("runs from " + s + " at last", x.ledger(s, 3), runs[1][s]);
        }
    }

    private static void countBounds() {
        Due.sentence("8 that are LOST. OUTSIDE.");
        TelegraphHouse x = Due.net(2, 3);
        for (int what : new int[] {LEAST, -9, -1, 9, 10, MOST}) {
            Due.due("count(" + what + ")", x.count(what), OUTSIDE);
        }
        x.book(0, 1);
        x.line(0, 1, 1, 0, 0);
        x.feed('a');
        int[] want = {1, 3, 2, 1, 1, 0, 0, 0, 0};
        for (int what = 0; what < 9; what++) {
            Due.due("count(" + what + ")", x.count(what), want[what]);
        }
    }

    private static void countStates() {
        Due.sentence("5 MESSAGES that WAIT, 6 that run, 7 that HAVE COME, 8 that are LOST");
        TelegraphHouse x = Due.net(2, 7);
        x.line(0, 1, 2, 0, 0);
        x.lose(0);
        for (int m = 0; m < 5; m++) {
            x.send(m, 0, 1, 0);
        }
        x.send(5, 1, 0, 0);
        int[][] want = {{6, 0, 0, 0}, {4, 2, 0, 0}, {4, 2, 0, 0}, {3, 1, 1, 1}, {3, 1, 1, 1}, {2, 1, 2, 1}};
        for (int i = 0; i < want.length; i++) {
            for (int state = 0; state < 4; state++) {
                Due.due("clock " + i + ", count(" + (5 + state) + ")", x.count(5 + state), want[i][state]);
            }
            x.step(1);
        }
        Due.due("asked for", x.ask(1), 1);
        Due.due("none is lost", x.count(8), 0);
        x.step(20);
        Due.due("all but the one not sent", x.count(7), 6);
    }
}
