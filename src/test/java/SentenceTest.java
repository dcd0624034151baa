/**
 * Sentences of the document that name no bound, each with a test of its own that quotes it. The
 * answers were worked out by hand from its words, but for those of sound(), which a search finds.
 */
public final class SentenceTest {
    private static final int UNKNOWN = TelegraphHouse.UNKNOWN;
    private static final int NONE = TelegraphHouse.NONE;

    public static void main(String[] args) {
        noneIsMinusNine();
        thereIsNoSuch();
        anotherNumber();
        quotientsAreCut();
        groupToldAsANumber();
        soundByTheirNumbers();
        groupOfPhraseK();
        digitsToTheBase24();
        twoGroupsOfANumber();
        firstThreeLettersThenFour();
        coveredByParts();
        formIsItsGroupsInOrder();
        eachSortIsExpanded();
        expandedByGroupsNotByParts();
        sumsOfNowLessThoseThen();
        neighboursChangedForOneAnother();
        allBlocksAreMended();
        latestMend();
        aboutEachWhat();
        partEachSort();
        clockGoesOn();
        whereEachState();
        askedHowMany();
        countEachWhat();
        Due.end();
    }

    /** A house with a book that has the phrases "a b" and "up", and a message that it condenses. */
    private static TelegraphHouse condensed(String text) {
        TelegraphHouse x = Due.withBook(0, 1, "a b", "up");
        Due.message(x, text);
        x.condense(0, 0);
        return x;
    }

    private static void noneIsMinusNine() {
        Due.sentence("NONE is -9.");
        TelegraphHouse x = Due.net(2, 1);
        x.book(0, 1);
        x.close(0);
        x.condense(0, 0);
        x.guard(0);
        Due.due("distance of no phrase", x.distance(0), -9);
        Due.due("a spelled part's phrase", x.part(0, 0, 2), -9);
        Due.due("mended ahead of mend()", x.mended(0, 0), -9);
        Due.due("path to nowhere", x.path(0, 1, 0), -9);
        Due.due("far to nowhere", x.far(0, 1), -9);
        Due.due("where it is, not sent", x.where(0, 1), -9);
        Due.due("when it came, not sent", x.where(0, 2), -9);
        Due.due("an empty queue", x.queue(0, 0), -9);
        TelegraphHouse y = Due.net(0, 1);
        Due.due("best of no book", y.best(0), -9);
        Due.due("the book of no form", y.about(0, 3), -9);
    }

    private static void thereIsNoSuch() {
        Due.sentence("UNKNOWN (there is no such BOOK, MESSAGE, GROUP, STATION, LINE)");
        TelegraphHouse x = Due.net(1, 1);
        x.book(0, 1);
        x.close(0);
        x.condense(0, 0);
        Due.due("no such book", x.close(1), -1);
        Due.due("no such message", x.about(1, 0), -1);
        Due.due("no such group", x.group(0, 1), -1);
        Due.due("no such station", x.queue(1, 0), -1);
        Due.due("no such line", x.lose(0), -1);
    }

    private static void anotherNumber() {
        Due.sentence("OUTSIDE (another number is not as told), STATE (as told), FULL.");
        TelegraphHouse x = Due.net(8, 1);
        Due.due("no such what", x.about(0, 6), -2);
        Due.due("both stations are one", x.line(0, 0, 1, 0, 0), -3);
        Due.due("a ninth station", x.station(), -4);
    }

    private static void quotientsAreCut() {
        Due.sentence("x / y is cut.");
        Due.due("1 + 3 / 4", condensed("abc").about(0, 2), 1);
        Due.due("1 + 7 / 4", condensed("abcdefg").about(0, 2), 2);
        Due.due("1 + 11 / 4", condensed("abcdefghijk").about(0, 2), 3);
        Due.due("663551 / 331776", condensed("663551").group(0, 0), Due.group(24, 0, 0, 0, 1));
        TelegraphHouse x = Due.net(2, 1);
        x.line(0, 1, 1, 1, 2);
        x.send(0, 0, 1, 0);
        x.step(60);
        Due.due("59 / 60 is hour 0, when it is shut", x.where(0, 0), 1);
        x.step(1);
        Due.due("60 / 60 is hour 1, when it is open", x.where(0, 0), 2);
    }

    private static void groupToldAsANumber() {
        Due.sentence("A GROUP is five letters, 0 .. 25 for a .. z, told as a number: "
                + "26 times the number of those ahead, and the last letter, from the first on.");
        int[] worth = {456976, 17576, 676, 26, 1};
        for (int place = 0; place < 5; place++) {
            TelegraphHouse x = condensed("a");
            Due.setGroup(x, 0, 0, 0);
            Due.due("all are a", x.group(0, 0), 0);
            x.hurt(0, 0, place, 1);
            Due.due("a b at place " + place, x.group(0, 0), worth[place]);
            x.hurt(0, 0, place, 25);
            Due.due("a z at place " + place, x.group(0, 0), 25 * worth[place]);
        }
        TelegraphHouse x = condensed("a");
        for (int place = 0; place < 5; place++) {
            x.hurt(0, 0, place, 25);
        }
        Due.due("all are z", x.group(0, 0), 11881375);
        Due.due("what is spelled has the letters of its word", condensed("az").group(0, 0),
                23 * 456976 + 2 * 17576 + 25 * 26);
    }

    /** A plain search through all groups, which has no part of the class in it. */
    private static void soundByTheirNumbers() {
        Due.sentence("It is SOUND, if its letters times 1, 3, 7, 15, 5 (the first one times 1), added, are "
                + "0 modulo 26, the first is 22 at most, and no two neighbours are 13 apart. "
                + "SOUND GROUPS are 0, 1, .. by their numbers.");
        int[] sound = new int[400];
        int found = 0;
        for (int g = 0; found < sound.length; g++) {
            if (isSound(g)) {
                sound[found] = g;
                found++;
            }
        }
        TelegraphHouse x = new TelegraphHouse();
        for (int n = 0; n < sound.length; n++) {
            Due.due("sound(" + n + ")", x.sound(n), sound[n]);
        }
    }

    private static boolean isSound(int group) {
        int[] times = {1, 3, 7, 15, 5};
        int[] letters = new int[5];
        int rest = group;
        int sum = 0;
        boolean apart = false;
        for (int i = 4; i >= 0; i--) {
            letters[i] = rest % 26;
            rest /= 26;
            sum += times[i] * letters[i];
            apart = apart || i < 4 && Math.abs(letters[i] - letters[i + 1]) == 13;
        }
        return sum % 26 == 0 && letters[0] <= 22 && !apart;
    }

    private static void groupOfPhraseK() {
        Due.sentence("When a BOOK is closed, the GROUP of PHRASE k is the SOUND one START + k STEP.");
        TelegraphHouse x = Due.withBook(7, 4, "a", "b", "c", "d");
        for (int k = 0; k < 4; k++) {
            Due.due("groupOf(0, " + k + ")", x.groupOf(0, k), x.sound(7 + 4 * k));
        }
    }

    private static void digitsToTheBase24() {
        Due.sentence("25, then four digits of v to the base 24, the highest first");
        Due.due("0", condensed("0").group(0, 0), Due.group(25, 0, 0, 0, 0));
        Due.due("7", condensed("7").group(0, 0), Due.group(25, 0, 0, 0, 7));
        Due.due("24", condensed("24").group(0, 0), Due.group(25, 0, 0, 1, 0));
        Due.due("576", condensed("576").group(0, 0), Due.group(25, 0, 1, 0, 0));
        Due.due("13824", condensed("13824").group(0, 0), Due.group(25, 1, 0, 0, 0));
        Due.due("15052", condensed("15052").group(0, 0), Due.group(25, 1, 2, 3, 4));
    }

    private static void twoGroupsOfANumber() {
        Due.sentence("else by two: 24 and four such digits of v / 331776, then 25 and those of what is "
                + "left of v by 331776.");
        TelegraphHouse x = condensed("41818828");
        Due.due("two groups", x.about(0, 2), 2);
        Due.due("126 of 331776", x.group(0, 0), Due.group(24, 0, 0, 5, 6));
        Due.due("and 15052", x.group(0, 1), Due.group(25, 1, 2, 3, 4));
    }

    private static void firstThreeLettersThenFour() {
        Due.sentence("23, n, its first three letters; then each 23 and four letters more");
        TelegraphHouse x = condensed("bcdefghijklm");
        Due.due("its first three", x.group(0, 0), Due.group(23, 12, 1, 2, 3));
        Due.due("four more", x.group(0, 1), Due.group(23, 4, 5, 6, 7));
        Due.due("four more", x.group(0, 2), Due.group(23, 8, 9, 10, 11));
        Due.due("the last one", x.group(0, 3), Due.group(23, 12, 0, 0, 0));
        Due.due("just three", condensed("xyz").group(0, 0), Due.group(23, 3, 23, 24, 25));
    }

    private static void part(TelegraphHouse x, int i, int sort, int cover, int phrase) {
        Due.due("the sort of part " + i, x.part(0, i, 0), sort);
        Due.due("what part " + i + " covers", x.part(0, i, 1), cover);
        Due.due("the phrase of part " + i, x.part(0, i, 2), phrase);
    }

    private static void coveredByParts() {
        Due.sentence("TO CONDENSE a MESSAGE by a BOOK is to cover its TOKENS, from the first on, by PARTS: a "
                + "PHRASE of the BOOK for as many WORDS that are just its WORDS (one GROUP), a WORD SPELLED, "
                + "a NUMBER told.");
        TelegraphHouse x = condensed("b 9 a b up a 400000 a b");
        Due.due("parts", x.about(0, 4), 7);
        part(x, 0, 1, 1, NONE);
        part(x, 1, 2, 1, NONE);
        part(x, 2, 0, 2, 0);
        part(x, 3, 0, 1, 1);
        part(x, 4, 1, 1, NONE);
        part(x, 5, 2, 1, NONE);
        part(x, 6, 0, 2, 0);
        Due.due("no more", x.part(0, 7, 0), UNKNOWN);
    }

    private static void formIsItsGroupsInOrder() {
        Due.sentence("Its GROUPS, in order, are the FORM of the MESSAGE");
        TelegraphHouse x = condensed("b 9 a b up 400000");
        Due.due("b", x.group(0, 0), Due.group(23, 1, 1, 0, 0));
        Due.due("9", x.group(0, 1), Due.group(25, 0, 0, 0, 9));
        Due.due("a b", x.group(0, 2), x.groupOf(0, 0));
        Due.due("up", x.group(0, 3), x.groupOf(0, 1));
        Due.due("400000, of which 68224 are left", x.group(0, 4), Due.group(24, 0, 0, 0, 1));
        Due.due("68224", x.group(0, 5), Due.group(25, 4, 22, 10, 16));
        Due.due("no more", x.group(0, 6), UNKNOWN);
    }

    private static void eachSortIsExpanded() {
        Due.sentence("from the first on: a GROUP of a PHRASE gives its WORDS; one that begins with 25 a NUMBER; "
                + "one with 24 and a next one with 25 a NUMBER; one with 23 a WORD, with the GROUPS behind it "
                + "that belong to it.");
        String text = "a b 9 400000 bcdefgh up";
        TelegraphHouse x = condensed(text);
        Due.due("as it is", x.expands(0), 1);
        othersIf("the other phrase", text, 0, x.groupOf(0, 1));
        othersIf("another number", text, 1, Due.group(25, 0, 0, 0, 10));
        othersIf("more of 331776", text, 2, Due.group(24, 0, 0, 0, 2));
        othersIf("another rest", text, 3, Due.group(25, 4, 22, 10, 17));
        othersIf("another word", text, 4, Due.group(23, 7, 1, 2, 4));
        othersIf("another word behind", text, 5, Due.group(23, 4, 5, 6, 8));
        othersIf("a word for a phrase", text, 6, Due.group(23, 2, 20, 14, 0));
        othersIf("two numbers become one", "9 400000 5 6", 3, Due.group(24, 0, 0, 0, 5));
    }

    private static void othersIf(String why, String text, int k, int group) {
        TelegraphHouse x = condensed(text);
        Due.setGroup(x, 0, k, group);
        Due.due(why, x.expands(0), 0);
    }

    private static void expandedByGroupsNotByParts() {
        Due.sentence("TO EXPAND a FORM, as its GROUPS are then");
        TelegraphHouse x = condensed("up 9");
        Due.setGroup(x, 0, 0, Due.group(23, 2, 20, 15, 0));
        Due.due("what was a phrase is spelled now", x.expands(0), 1);
        Due.due("its part is as it was condensed", x.part(0, 0, 0), 0);
    }

    private static void sumsOfNowLessThoseThen() {
        Due.sentence("a is the sum of its letters now less A, b the sum of places times letters now less B, "
                + "both modulo 101, 0 .. 100.");
        TelegraphHouse x = condensed("7");
        x.guard(0);
        Due.due("A: 25 + 7", x.sum(0, 0, 0), 32);
        Due.due("B: 25 + 5 times 7", x.sum(0, 0, 1), 60);
        // Less than it was: a is -7, so 94, and b is -35, so 66, which is 5 times 94.
        x.hurt(0, 0, 4, 0);
        Due.due("a letter became less", x.mend(0), 1);
        Due.due("it is put back", x.group(0, 0), Due.group(25, 0, 0, 0, 7));
        // More than it was: a is 11, b is 55.
        x.hurt(0, 0, 4, 18);
        Due.due("a letter became more", x.mend(0), 1);
        Due.due("it is put back", x.group(0, 0), Due.group(25, 0, 0, 0, 7));
    }

    private static void neighboursChangedForOneAnother() {
        Due.sentence("these two are changed for one another: REPAIRED");
        TelegraphHouse x = condensed("7");
        x.guard(0);
        for (int place : new int[] {0, 3}) {
            x.swap(0, 0, place);
            Due.due("two neighbours", x.mend(0), 1);
            Due.due("they are put back", x.group(0, 0), Due.group(25, 0, 0, 0, 7));
            Due.due("what was found", x.mended(0, 0), 1);
        }
    }

    private static void allBlocksAreMended() {
        Due.sentence("All BLOCKS are MENDED");
        TelegraphHouse x = condensed("1 2 3 4 5 6 7 8 9 10 11 12 13 14 15 16 17 18 19 20");
        Due.due("blocks", x.guard(0), 3);
        int[] hurt = {7, 8, 19};
        for (int k : hurt) {
            x.hurt(0, k, 4, 23);
        }
        Due.due("all of them", x.mend(0), 1);
        for (int block = 0; block < 3; block++) {
            Due.due("block " + block, x.mended(0, block), 1);
        }
        for (int k : hurt) {
            Due.due("group " + k, x.group(0, k), Due.group(25, 0, 0, 0, k + 1));
        }
        Due.due("its tokens", x.expands(0), 1);
    }

    private static void latestMend() {
        Due.sentence("What the latest mend() of a MESSAGE found of a BLOCK: 0 RIGHT, 1 REPAIRED, 2 REFUSED");
        TelegraphHouse x = condensed("7 7 7 7 7 7 7 7 7");
        x.guard(0);
        x.mend(0);
        mended(x, "nothing was hurt", 0, 0);
        x.hurt(0, 8, 4, 8);
        mended(x, "no mend() since it was hurt", 0, 0);
        x.mend(0);
        mended(x, "one letter", 0, 1);
        x.hurt(0, 0, 4, 8);
        x.hurt(0, 7, 4, 8);
        x.mend(0);
        mended(x, "two letters", 2, 0);
        x.hurt(0, 0, 4, 7);
        x.hurt(0, 7, 4, 7);
        x.mend(0);
        mended(x, "they are put back by hand", 0, 0);
    }

    private static void mended(TelegraphHouse x, String when, int first, int second) {
        Due.due(when + ", block 0", x.mended(0, 0), first);
        Due.due(when + ", block 1", x.mended(0, 1), second);
    }

    private static void aboutEachWhat() {
        Due.sentence("Of a MESSAGE: 0 its TOKENS, 1 its COUNT, 2 the GROUPS of its FORM (0: none), 3 the BOOK of "
                + "that (NONE), 4 its PARTS then (0), 5 BLOCKS that it is GUARDED by (0).");
        TelegraphHouse x = new TelegraphHouse();
        x.book(0, 1);
        x.book(0, 1);
        Due.phrase(x, 1, "a b");
        x.close(1);
        Due.message(x, "a b carriage 331776 5 6 7 8 9 10 11");
        about(x, "without a form", 11, 12, 0, NONE, 0, 0);
        x.condense(0, 1);
        about(x, "condensed", 11, 13, 13, 1, 10, 0);
        x.guard(0);
        about(x, "guarded", 11, 13, 13, 1, 10, 2);
    }

    private static void about(TelegraphHouse x, String when, int... due) {
        for (int what = 0; what < due.length; what++) {
            Due.due(when + ", about(0, " + what + ")", x.about(0, what), due[what]);
        }
    }

    private static void partEachSort() {
        Due.sentence("what = 0 its sort (0 PHRASE, 1 SPELLED, 2 NUMBER), 1 how many TOKENS it covers, "
                + "2 the PHRASE's number (else NONE).");
        TelegraphHouse x = condensed("a b stop 5 up");
        part(x, 0, 0, 2, 0);
        part(x, 1, 1, 1, NONE);
        part(x, 2, 2, 1, NONE);
        part(x, 3, 0, 1, 1);
    }

    private static void clockGoesOn() {
        Due.sentence("Then THE CLOCK goes on by 1.");
        TelegraphHouse x = new TelegraphHouse();
        Due.due("at first", x.clock(), 0);
        x.step(1);
        Due.due("a minute later", x.clock(), 1);
        x.step(299);
        Due.due("299 more", x.clock(), 300);
    }

    private static void where(TelegraphHouse x, String when, int... due) {
        for (int what = 0; what < due.length; what++) {
            Due.due(when + ", where(0, " + what + ")", x.where(0, what), due[what]);
        }
    }

    private static void whereEachState() {
        Due.sentence("what = 0 how it is: 0 not sent, 1 WAITS, 2 runs, 3 HAS COME, 4 LOST; 1 the STATION where it "
                + "WAITS, HAS COME, the LINE on which it runs, was LOST (NONE); 2 the MINUTE in which it HAS COME "
                + "(NONE); 3 how often it was LOST.");
        TelegraphHouse x = Due.net(4, 1);
        x.line(0, 1, 9, 0, 0);
        x.line(3, 2, 5, 0, 0);
        where(x, "not sent", 0, NONE, NONE, 0);
        x.send(0, 3, 2, 0);
        where(x, "waits", 1, 3, NONE, 0);
        x.lose(1);
        x.step(1);
        where(x, "runs", 2, 1, NONE, 0);
        x.step(5);
        where(x, "lost", 4, 1, NONE, 1);
        x.ask(2);
        where(x, "waits anew", 1, 3, NONE, 1);
        x.step(6);
        where(x, "has come", 3, 2, 11, 1);
    }

    private static void askedHowMany() {
        Due.sentence("A STATION asks for all that are LOST on their way to it: they WAIT anew, by number (those to "
                + "which there is no PATH now stay LOST): how many.");
        TelegraphHouse x = Due.net(3, 4);
        x.line(0, 1, 1, 0, 0);
        x.line(1, 2, 1, 0, 0);
        for (int i = 0; i < 3; i++) {
            x.lose(0);
        }
        x.send(3, 0, 2, 0);
        x.send(2, 0, 1, 0);
        x.send(1, 0, 2, 0);
        x.send(0, 0, 1, 0);
        x.step(5);
        Due.due("three are lost", x.count(8), 3);
        Due.due("none was on its way to 0", x.ask(0), 0);
        Due.due("one was on its way to 1", x.ask(1), 1);
        Due.due("two were on their way to 2", x.ask(2), 2);
        Due.due("none is left", x.ask(2), 0);
        Due.due("1 asked for 2 first", x.queue(0, 0), 2);
        Due.due("then 2 asked for 1", x.queue(0, 1), 1);
        Due.due("and 3", x.queue(0, 2), 3);
    }

    private static void countEachWhat() {
        Due.sentence("0 BOOKS, 1 MESSAGES, 2 STATIONS, 3 LINES, 4 bytes of THE TAPE, 5 MESSAGES that WAIT, 6 that "
                + "run, 7 that HAVE COME, 8 that are LOST.");
        TelegraphHouse x = Due.net(7, 15);
        x.book(0, 1);
        Due.feed(x, "eleven more");
        x.line(0, 1, 1, 0, 0);
        x.line(2, 3, 1, 0, 0);
        x.line(4, 5, 60, 0, 0);
        x.line(5, 6, 60, 0, 0);
        int next = 0;
        for (int i = 0; i < 3; i++) {
            x.send(next++, 0, 1, 0);
            x.lose(1);
            x.send(next++, 2, 3, 0);
        }
        x.send(next++, 0, 1, 0);
        x.step(5);
        for (int i = 0; i < 2; i++) {
            x.send(next++, 4, 5, 0);
            x.send(next++, 5, 6, 0);
            x.send(next++, 5, 4, 0);
        }
        x.send(next++, 4, 5, 0);
        x.send(next++, 4, 5, 0);
        x.step(1);
        int[] due = {1, 15, 7, 4, 11, 5, 3, 4, 3};
        for (int what = 0; what < due.length; what++) {
            Due.due("count(" + what + ")", x.count(what), due[what]);
        }
    }
}
