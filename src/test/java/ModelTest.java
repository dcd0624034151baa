import java.util.Random;

/** Runs of calls drawn by chance, from a fixed seed, each answer compared with the model's. */
public final class ModelTest {
    private static final int RUNS = 800;
    // A draw makes some 120 calls at most, and an object is used for 512.
    private static final int CALLS = 390;
    private static final String[] WORDS = {
        "a", "b", "at", "up", "the", "sell", "stop", "buy", "carriage", "midnight", "abcdefghijkl", "zzzz",
    };
    private static final String[] FEW_WORDS = {"up", "sell", "carriage", "the"};
    private static final int[] ODD = {
        -1, -2, 3, 8, 12, 26, 30, 80, 1000, 10000, Integer.MAX_VALUE, Integer.MIN_VALUE, -9,
    };

    private final Random chance;
    private final int temper;
    private final int wordCount;
    private final TelegraphHouse x = new TelegraphHouse();
    private final Model y = new Model();
    private int calls;
    private final String name;

    private ModelTest(int run) {
        chance = new Random(7919L * run + 1);
        temper = run % 4;
        wordCount = chance.nextInt(3) == 0 ? WORDS.length : 2 + chance.nextInt(3);
        name = "run " + run;
    }

    public static void main(String[] args) {
        for (int run = 0; run < RUNS; run++) {
            new ModelTest(run).play();
        }
        Due.end();
    }

    private void play() {
        while (calls < CALLS) {
            switch (temper) {
                case 0: anyCall(chance.nextInt(36)); break;
                case 1: net(); break;
                case 2: codes(); break;
                default: if (chance.nextBoolean()) { net(); } else { codes(); } break;
            }
        }
    }

    private void same(String call, int got, int want) {
        calls++;
        Due.due(name + ", call " + calls + ": " + call, got, want);
    }

    private int below(int n) {
        return chance.nextInt(30) == 0 ? ODD[chance.nextInt(ODD.length)] : chance.nextInt(n);
    }

    private int message() {
        return below(Math.max(1, y.count(1)));
    }

    private int station() {
        return below(Math.max(1, y.count(2)));
    }

    private void feed(String text) {
        for (int i = 0; i < text.length(); i += 8) {
            long w = 0;
            for (int k = Math.min(i + 8, text.length()) - 1; k >= i; k--) {
                w = w << 8 | text.charAt(k) & 255;
            }
            same("feed " + w, x.feed(w), y.feed(w));
        }
    }

    private String number() {
        switch (chance.nextInt(4)) {
            case 0: return Integer.toString(chance.nextInt(12));
            case 1: return Integer.toString(331770 + chance.nextInt(12));
            case 2: return Integer.toString(999999999 - chance.nextInt(3));
            default: return Integer.toString(chance.nextInt(1000000000));
        }
    }

    /** In some runs all words are of a few, so that phrases often stand in a message. */
    private String word() {
        return wordCount < WORDS.length
                ? FEW_WORDS[chance.nextInt(wordCount)] : WORDS[chance.nextInt(wordCount)];
    }

    private String text(int most, int numbersIn) {
        StringBuilder s = new StringBuilder();
        int n = 1 + chance.nextInt(most);
        for (int i = 0; i < n; i++) {
            s.append(chance.nextInt(numbersIn) == 0 ? number() : word());
            s.append(chance.nextInt(8) == 0 ? "  " : " ");
        }
        if (chance.nextInt(25) == 0) {
            int at = chance.nextInt(s.length());
            s.setCharAt(at, "a0 9zA".charAt(chance.nextInt(6)));
        }
        return s.toString();
    }

    private void newMessage(int most) {
        feed(text(most, 5));
        same("message", x.message(), y.message());
        if (chance.nextInt(3) > 0) {
            same("cut 0", x.cut(0), y.cut(0));
        }
    }

    private void newPhrase() {
        int book = below(3);
        feed(text(4, 60));
        same("phrase " + book, x.phrase(book), y.phrase(book));
        if (chance.nextInt(3) > 0) {
            same("cut 0", x.cut(0), y.cut(0));
        }
    }

    private void codes() {
        int c = chance.nextInt(40);
        if (y.count(0) < 3 && chance.nextInt(20) == 0) {
            anyCall(3);
        } else if (y.count(0) > 0 && y.count(1) < 2) {
            newPhrase();
            if (chance.nextInt(10) == 0) {
                newMessage(20);
            }
        } else if (c == 0) {
            newMessage(20);
        } else if (c == 1) {
            newPhrase();
        } else if (c < 5) {
            hurtAndMend();
        } else {
            anyCall(4 + chance.nextInt(18));
        }
    }

    private void hurtAndMend() {
        int m = message();
        int b = below(3);
        if (chance.nextInt(4) > 0) {
            same("condense", x.condense(m, b), y.condense(m, b));
            same("guard", x.guard(m), y.guard(m));
        }
        int times = chance.nextInt(3);
        for (int i = 0; i < times; i++) {
            int k = below(Math.max(1, y.about(m, 2)));
            int place = below(5);
            int letter = below(26);
            if (chance.nextBoolean()) {
                same("hurt", x.hurt(m, k, place, letter), y.hurt(m, k, place, letter));
            } else {
                same("swap", x.swap(m, k, place), y.swap(m, k, place));
            }
            same("expands", x.expands(m), y.expands(m));
        }
        same("mend", x.mend(m), y.mend(m));
        for (int k = 0; k < y.about(m, 2); k++) {
            same("group " + k, x.group(m, k), y.group(m, k));
        }
        for (int i = 0; i < y.about(m, 4); i++) {
            same("part " + i, x.part(m, i, 2), y.part(m, i, 2));
        }
        same("expands", x.expands(m), y.expands(m));
    }

    private void net() {
        int c = chance.nextInt(30);
        if (y.count(2) < 3 || c == 0) {
            anyCall(22);
        } else if (y.count(3) < 3 || c == 1) {
            anyCall(23);
        } else if (c == 2 || y.count(1) < 3) {
            newMessage(3);
        } else if (c < 8) {
            anyCall(26);
        } else if (c < 12) {
            int n = 1 + chance.nextInt(chance.nextInt(4) == 0 ? 300 : 12);
            same("step " + n, x.step(n), y.step(n));
        } else {
            anyCall(24 + chance.nextInt(12));
        }
    }

    private void anyCall(int which) {
        if (which < 9) {
            tapeOrBook(which);
        } else if (which < 22) {
            ofMessage(which);
        } else {
            ofNet(which);
        }
    }

    private void tapeOrBook(int which) {
        int a = below(3);
        int b = below(30);
        switch (which) {
            case 0: newMessage(22); break;
            case 1: same("cut", x.cut(b), y.cut(b)); break;
            case 2: newPhrase(); break;
            case 3:
                int start = below(5001);
                int step = below(10);
                same("book", x.book(start, step), y.book(start, step));
                break;
            case 4: if (chance.nextInt(8) == 0) { same("close " + a, x.close(a), y.close(a)); } break;
            case 5: same("groupOf", x.groupOf(a, b), y.groupOf(a, b)); break;
            case 6: same("distance", x.distance(a), y.distance(a)); break;
            case 7:
                int n = below(10000);
                same("sound " + n, x.sound(n), y.sound(n));
                break;
            default: feed(text(3, 5)); break;
        }
        calls++;
    }

    private void ofMessage(int which) {
        int m = message();
        int k = below(Math.max(1, y.about(m, 2)));
        int w = below(7);
        int b = below(3);
        int l = below(26);
        boolean urgent = chance.nextBoolean();
        boolean night = chance.nextBoolean();
        switch (which) {
            case 9: same("about " + m + " " + w, x.about(m, w), y.about(m, w)); break;
            case 10: same("condense " + m + " " + b, x.condense(m, b), y.condense(m, b)); break;
            case 11: same("part " + k + " " + b, x.part(m, k, b), y.part(m, k, b)); break;
            case 12: same("group", x.group(m, k), y.group(m, k)); break;
            case 13: same("expands", x.expands(m), y.expands(m)); break;
            case 14: same("best", x.best(m), y.best(m)); break;
            case 15: same("guard", x.guard(m), y.guard(m)); break;
            case 16: same("sum", x.sum(m, b, w % 3), y.sum(m, b, w % 3)); break;
            case 17: same("hurt", x.hurt(m, k, w, l), y.hurt(m, k, w, l)); break;
            case 18: same("swap", x.swap(m, k, w), y.swap(m, k, w)); break;
            case 19: same("mend", x.mend(m), y.mend(m)); break;
            case 20: same("mended", x.mended(m, b), y.mended(m, b)); break;
            default: same("charge", x.charge(m, w, urgent, night, l > 12), y.charge(m, w, urgent, night, l > 12)); break;
        }
    }

    private void ofNet(int which) {
        int a = station();
        int b = station();
        int m = message();
        int w = below(10);
        int line = below(Math.max(1, y.count(3)));
        switch (which) {
            case 22: same("station", x.station(), y.station()); break;
            case 23:
                int minutes = chance.nextInt(3) == 0 ? below(62) : 1 + below(5);
                int from = chance.nextInt(3) == 0 ? below(24) : 0;
                int to = chance.nextInt(3) == 0 ? below(24) : from;
                same("line", x.line(a, b, minutes, from, to), y.line(a, b, minutes, from, to));
                break;
            case 24: same("path " + a + " " + b + " " + w, x.path(a, b, w), y.path(a, b, w)); break;
            case 25: same("far " + a + " " + b, x.far(a, b), y.far(a, b)); break;
            case 26:
                int priority = below(3);
                same("send " + m, x.send(m, a, b, priority), y.send(m, a, b, priority));
                break;
            case 27:
                int n = below(40);
                same("step " + n, x.step(n), y.step(n));
                break;
            case 28: same("clock", x.clock(), y.clock()); break;
            case 29: same("where " + m + " " + w % 5, x.where(m, w % 5), y.where(m, w % 5)); break;
            case 30: same("queue " + a + " " + w, x.queue(a, w), y.queue(a, w)); break;
            case 31: same("lose " + line, x.lose(line), y.lose(line)); break;
            case 32: same("ask " + a, x.ask(a), y.ask(a)); break;
            case 33: same("ledger " + a + " " + w % 5, x.ledger(a, w % 5), y.ledger(a, w % 5)); break;
            case 34: same("count " + w, x.count(w), y.count(w)); break;
            default: allStates(); break;
        }
    }

    private void allStates() {
        for (int m = 0; m < y.count(1); m++) {
            for (int what = 0; what < 4; what++) {
                same("where " + m + " " + what, x.where(m, what), y.where(m, what));
            }
        }
    }
}
