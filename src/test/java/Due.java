/** What the tests share: counting wrong answers, and feeding texts to a tape. */
final class Due {
    private static int checked = 0;
    private static int wrong = 0;
    private static String sentence = "";

    private Due() {
    }

    /** The words of the document that the answers from here on are due by. */
    static void sentence(String words) {
        sentence = words;
    }

    static void due(String call, long got, long want) {
        checked++;
        if (got != want) {
            wrong++;
            System.out.println(call + " answered " + got + ", due is " + want
                    + (sentence.isEmpty() ? "" : ": \"" + sentence + "\""));
        }
    }

    static void due(String what, boolean got) {
        due(what, got ? 1 : 0, 1);
    }

    /** Ends the test: exit code 1 if an answer was wrong, or if none was looked at. */
    static void end() {
        System.out.println(checked + " answers, " + wrong + " wrong");
        if (wrong != 0 || checked == 0) {
            System.exit(1);
        }
    }

    /** Feeds a text, eight bytes a call: the last answer. */
    static int feed(TelegraphHouse x, String text) {
        int answer = text.isEmpty() ? x.count(4) : 0;
        for (int i = 0; i < text.length(); i += 8) {
            answer = x.feed(packed(text, i));
        }
        return answer;
    }

    /** Up to eight bytes of a text, the first one lowest. */
    static long packed(String text, int from) {
        long w = 0;
        for (int i = Math.min(text.length(), from + 8) - 1; i >= from; i--) {
            w = w << 8 | text.charAt(i) & 255;
        }
        return w;
    }

    static int message(TelegraphHouse x, String text) {
        feed(x, text);
        return x.message();
    }

    static int phrase(TelegraphHouse x, int book, String text) {
        feed(x, text);
        return x.phrase(book);
    }

    /** The number of a group, from its letters. */
    static int group(int a, int b, int c, int d, int e) {
        return (((a * 26 + b) * 26 + c) * 26 + d) * 26 + e;
    }

    /** Hurts all letters of a group, so that it is this one. */
    static void setGroup(TelegraphHouse x, int message, int k, int group) {
        int rest = group;
        for (int place = 4; place >= 0; place--) {
            x.hurt(message, k, place, rest % 26);
            rest /= 26;
        }
    }

    /** A house with one closed book of these phrases; the book is 0. */
    static TelegraphHouse withBook(int start, int step, String... phrases) {
        TelegraphHouse x = new TelegraphHouse();
        x.book(start, step);
        for (String p : phrases) {
            phrase(x, 0, p);
        }
        x.close(0);
        return x;
    }

    /** A house with stations in a number, and messages "a", "a", .. in a number. */
    static TelegraphHouse net(int stations, int messages) {
        TelegraphHouse x = new TelegraphHouse();
        for (int i = 0; i < stations; i++) {
            x.station();
        }
        for (int i = 0; i < messages; i++) {
            message(x, "a");
        }
        return x;
    }
}
