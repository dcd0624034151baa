/** What the tests share: counting wrong answers, and feeding texts to a tape. */
final class Due {
    private static int checked = 0;
    private static int wrong = 0;

    private Due() {
    }

    static void due(String call, long got, long want) {
        checked++;
        if (got != want) {
            wrong++;
            System.out.println(call + " answered " + got + ", due is " + want);
        }
    }

    static void due(String what, boolean got) {
        due(what, got ? 1 : 0, 1);
    }

    /** Ends the test: exit code 1 if an answer was wrong, or if none was looked at. */
    static void end() {
        System.out.println(checked + " answers, " + wrong + " wrong");
        if (wrong != 0 || checked == 0) {
            System.exit(1);
        }
    }

    /** Feeds a text, eight bytes a call: the last answer. */
    static int feed(TelegraphHouse x, String text) {
        int answer = x.count(4);
        for (int i = 0; i < text.length(); i += 8) {
            answer = x.feed(packed(text, i));
        }
        return answer;
    }

    private static long packed(String text, int from) {
        long w = 0;
        for (int i = Math.min(text.length(), from + 8) - 1; i >= from; i--) {
            w = w << 8 | text.charAt(i) & 255;
        }
        return w;
    }

    static int message(TelegraphHouse x, String text) {
        feed(x, text);
        return x.message();
    }

    static int phrase(TelegraphHouse x, int book, String text) {
        feed(x, text);
        return x.phrase(book);
    }

    /** The number of a group, from its letters. */
    static int group(int a, int b, int c, int d, int e) {
        return (((a * 26 + b) * 26 + c) * 26 + d) * 26 + e;
    }

    /** A house with one closed book of these phrases; the book is 0. */
    static TelegraphHouse withBook(int start, int step, String... phrases) {
        TelegraphHouse x = new TelegraphHouse();
        x.book(start, step);
        for (String p : phrases) {
            phrase(x, 0, p);
        }
        x.close(0);
        return x;
    }
}
