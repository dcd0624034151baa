/** Promises 17 to 22: guard, sum, hurt, swap, mend, mended. */
public final class SumTest {
    public static void main(String[] args) {
        guards();
        sums();
        hurts();
        swaps();
        mends();
        mendEdges();
        twoBlocks();
        mendedSince();
        everyHurt();
        shorterForm();
        Due.end();
    }

    /** A message whose form is just so many groups of small numbers. */
    private static TelegraphHouse withNumbers(String text) {
        TelegraphHouse x = Due.withBook(0, 1);
        Due.message(x, text);
        x.condense(0, 0);
        return x;
    }

    private static void guards() {
        TelegraphHouse x = Due.withBook(0, 1);
        Due.due("unknown", x.guard(0), TelegraphHouse.UNKNOWN);
        Due.message(x, "1 2 3 4 5 6 7 8");
        Due.due("no form", x.guard(0), TelegraphHouse.STATE);
        x.condense(0, 0);
        Due.due("8 groups", x.guard(0), 1);
        Due.message(x, "1 2 3 4 5 6 7 8 9");
        x.condense(1, 0);
        Due.due("9 groups", x.guard(1), 2);
        StringBuilder longest = new StringBuilder();
        for (int i = 0; i < 20; i++) {
            longest.append("zzzzzzzzzzzz ");
        }
        Due.message(x, longest.toString());
        Due.due("80 groups", x.condense(2, 0), 80);
        Due.due("10 blocks", x.guard(2), 10);
        Due.due("no block 10", x.sum(2, 10, 0), TelegraphHouse.UNKNOWN);
        x.hurt(2, 79, 4, 25);
        Due.due("mends", x.mend(2), 1);
        Due.due("below", x.guard(-1), TelegraphHouse.UNKNOWN);
    }

    private static void sums() {
        TelegraphHouse x = withNumbers("1 2 3 4 5 6 7 8 9");
        Due.due("not guarded", x.sum(0, 0, 0), TelegraphHouse.UNKNOWN);
        Due.due("not guarded, ahead of outside", x.sum(0, 0, 7), TelegraphHouse.UNKNOWN);
        x.guard(0);
        // Letters: 25 at 1, 6, .. 36, and 1 .. 8 at 5, 10, .. 40.
        Due.due("A 0", x.sum(0, 0, 0), (8 * 25 + 36) % 101);
        Due.due("B 0", x.sum(0, 0, 1), (25 * (1 + 6 + 11 + 16 + 21 + 26 + 31 + 36) + 5 * 204) % 101);
        Due.due("A 1", x.sum(0, 1, 0), 34);
        Due.due("B 1", x.sum(0, 1, 1), 25 + 45);
        Due.due("no block 2", x.sum(0, 2, 0), TelegraphHouse.UNKNOWN);
        Due.due("no block -1", x.sum(0, -1, 0), TelegraphHouse.UNKNOWN);
        Due.due("no message", x.sum(1, 0, 0), TelegraphHouse.UNKNOWN);
        Due.due("outside", x.sum(0, 0, 2), TelegraphHouse.OUTSIDE);
        Due.due("outside below", x.sum(0, 0, -1), TelegraphHouse.OUTSIDE);
        x.hurt(0, 8, 1, 3);
        Due.due("as it was guarded", x.sum(0, 1, 0), 34);
        x.guard(0);
        Due.due("guarded anew", x.sum(0, 1, 0), 37);
        x.condense(0, 0);
        Due.due("condensed anew", x.sum(0, 1, 0), TelegraphHouse.UNKNOWN);
    }

    private static void hurts() {
        TelegraphHouse x = withNumbers("5 6");
        Due.due("what it was", x.hurt(0, 1, 4, 25), 6);
        Due.due("what it was then", x.hurt(0, 1, 4, 0), 25);
        Due.due("the lead", x.hurt(0, 0, 0, 3), 25);
        Due.due("now", x.group(0, 0), Due.group(3, 0, 0, 0, 5));
        Due.due("place below", x.hurt(0, 0, -1, 0), TelegraphHouse.OUTSIDE);
        Due.due("place above", x.hurt(0, 0, 5, 0), TelegraphHouse.OUTSIDE);
        Due.due("letter below", x.hurt(0, 0, 0, -1), TelegraphHouse.OUTSIDE);
        Due.due("letter above", x.hurt(0, 0, 0, 26), TelegraphHouse.OUTSIDE);
        Due.due("group above, ahead of outside", x.hurt(0, 2, 5, 26), TelegraphHouse.UNKNOWN);
        Due.due("group below", x.hurt(0, -1, 0, 0), TelegraphHouse.UNKNOWN);
        Due.due("message", x.hurt(1, 0, 0, 0), TelegraphHouse.UNKNOWN);
        Due.due("nothing changed", x.group(0, 0), Due.group(3, 0, 0, 0, 5));
        Due.message(x, "a");
        Due.due("no form", x.hurt(1, 0, 0, 0), TelegraphHouse.UNKNOWN);
    }

    private static void swaps() {
        TelegraphHouse x = withNumbers("5 6");
        Due.due("unlike", x.swap(0, 0, 3), 1);
        Due.due("now", x.group(0, 0), Due.group(25, 0, 0, 5, 0));
        Due.due("unlike at first", x.swap(0, 0, 0), 1);
        Due.due("then", x.group(0, 0), Due.group(0, 25, 0, 5, 0));
        Due.due("alike", x.swap(0, 1, 1), 0);
        Due.due("as it was", x.group(0, 1), Due.group(25, 0, 0, 0, 6));
        Due.due("place below", x.swap(0, 0, -1), TelegraphHouse.OUTSIDE);
        Due.due("place above", x.swap(0, 0, 4), TelegraphHouse.OUTSIDE);
        Due.due("group, ahead of outside", x.swap(0, 2, 4), TelegraphHouse.UNKNOWN);
        Due.due("group below", x.swap(0, -1, 0), TelegraphHouse.UNKNOWN);
        Due.due("message", x.swap(1, 0, 0), TelegraphHouse.UNKNOWN);
    }

    private static void mends() {
        TelegraphHouse x = withNumbers("5 6 12345");
        Due.due("unknown", x.mend(1), TelegraphHouse.UNKNOWN);
        Due.due("not guarded", x.mend(0), TelegraphHouse.STATE);
        x.guard(0);
        Due.due("right", x.mend(0), 0);
        x.hurt(0, 1, 4, 25);
        Due.due("a letter higher", x.mend(0), 1);
        Due.due("its group", x.group(0, 1), Due.group(25, 0, 0, 0, 6));
        x.hurt(0, 1, 0, 0);
        Due.due("a letter lower", x.mend(0), 1);
        Due.due("its group again", x.group(0, 1), Due.group(25, 0, 0, 0, 6));
        x.swap(0, 2, 0);
        Due.due("neighbours, with a fall", x.mend(0), 1);
        x.swap(0, 2, 3);
        Due.due("neighbours, with a rise", x.mend(0), 1);
        Due.due("expands", x.expands(0), 1);
        Due.due("right then", x.mend(0), 0);
    }

    private static void mendEdges() {
        TelegraphHouse x = withNumbers("1 1");
        x.guard(0);
        x.swap(0, 0, 3);
        Due.due("one place falls by 1", x.mend(0), 1);
        Due.due("as it was", x.expands(0), 1);
        x.hurt(0, 0, 2, 1);
        x.guard(0);
        // 25 0 1 0 1 becomes 25 1 0 0 1: only place 2 falls by 1.
        x.swap(0, 0, 1);
        Due.due("mended", x.mend(0), 1);
        Due.due("its letters", x.group(0, 0), Due.group(25, 0, 1, 0, 1));
        // 25 0 0 1 1, 25 0 0 0 1: places 3 and 9 rise by 1, so that it is not just one.
        x.hurt(0, 0, 2, 0);
        x.hurt(0, 0, 3, 1);
        int before = x.group(0, 0);
        Due.due("two places fit", x.mend(0), 2);
        Due.due("nothing of it changes", x.group(0, 0), before);
        overTheGroup();
        placeBehindTheEnd();
        letterOutside();
    }

    /** Letters 5 and 6 of a block are neighbours, but not in one group. */
    private static void overTheGroup() {
        TelegraphHouse x = withNumbers("7 1");
        x.hurt(0, 1, 0, 3);
        x.guard(0);
        x.hurt(0, 0, 4, 3);
        x.hurt(0, 1, 0, 7);
        Due.due("not in the same group", x.mend(0), 2);
        Due.due("finding", x.mended(0, 0), 2);
    }

    /** One group: the place that a and b tell is behind its end. */
    private static void placeBehindTheEnd() {
        TelegraphHouse x = withNumbers("7");
        x.guard(0);
        // a = 1 + 1, b = 4 + 5: the place would be 9 / 2, 55 modulo 101.
        x.hurt(0, 0, 3, 1);
        x.hurt(0, 0, 4, 8);
        int before = x.group(0, 0);
        Due.due("no such place", x.mend(0), 2);
        Due.due("nothing of it changes", x.group(0, 0), before);
        x.hurt(0, 0, 3, 3);
        x.hurt(0, 0, 4, 7);
        Due.due("place 4", x.mend(0), 1);
        Due.due("right", x.mend(0), 0);
    }

    private static void letterOutside() {
        TelegraphHouse x = withNumbers("7");
        x.hurt(0, 0, 1, 2);
        x.hurt(0, 0, 3, 1);
        x.guard(0);
        // One more at places 2 and 4: a = 2 and b = 6 tell place 3, whose letter is 0.
        x.hurt(0, 0, 1, 3);
        x.hurt(0, 0, 3, 2);
        Due.due("place 3 would be below 0", x.mend(0), 2);
        x.hurt(0, 0, 1, 1);
        x.hurt(0, 0, 3, 0);
        Due.due("place 3 takes it, though it is wrong", x.mend(0), 1);
        Due.due("now", x.group(0, 0), Due.group(25, 1, 2, 0, 7));
        // One less at places 2 and 4 tells place 3 and two more for it.
        for (int letter = 22; letter < 26; letter++) {
            x.hurt(0, 0, 1, 2);
            x.hurt(0, 0, 2, letter);
            x.hurt(0, 0, 3, 1);
            x.guard(0);
            x.hurt(0, 0, 1, 1);
            x.hurt(0, 0, 3, 0);
            Due.due("place 3 with " + letter, x.mend(0), letter < 24 ? 1 : 2);
        }
    }

    private static void twoBlocks() {
        TelegraphHouse x = withNumbers("1 2 3 4 5 6 7 8 9 10 11 12 13 14 15 16 17 18");
        Due.due("three blocks", x.guard(0), 3);
        x.hurt(0, 3, 2, 9);
        x.swap(0, 17, 3);
        Due.due("two repaired", x.mend(0), 1);
        Due.due("0", x.mended(0, 0), 1);
        Due.due("1", x.mended(0, 1), 0);
        Due.due("2", x.mended(0, 2), 1);
        x.hurt(0, 0, 1, 3);
        x.hurt(0, 0, 2, 3);
        x.hurt(0, 0, 3, 9);
        x.hurt(0, 8, 3, 9);
        Due.due("one refused, one repaired", x.mend(0), 2);
        Due.due("0 refused", x.mended(0, 0), 2);
        Due.due("1 repaired", x.mended(0, 1), 1);
        Due.due("2 right", x.mended(0, 2), 0);
    }

    private static void mendedSince() {
        TelegraphHouse x = withNumbers("1 2 3");
        Due.due("not guarded", x.mended(0, 0), TelegraphHouse.UNKNOWN);
        x.guard(0);
        Due.due("none since", x.mended(0, 0), TelegraphHouse.NONE);
        x.mend(0);
        Due.due("right", x.mended(0, 0), 0);
        x.hurt(0, 0, 4, 4);
        Due.due("the latest one", x.mended(0, 0), 0);
        x.guard(0);
        Due.due("none since again", x.mended(0, 0), TelegraphHouse.NONE);
        Due.due("block above", x.mended(0, 1), TelegraphHouse.UNKNOWN);
        Due.due("block below", x.mended(0, -1), TelegraphHouse.UNKNOWN);
        Due.due("message", x.mended(1, 0), TelegraphHouse.UNKNOWN);
        x.mend(0);
        x.condense(0, 0);
        Due.due("condensed anew", x.mended(0, 0), TelegraphHouse.UNKNOWN);
    }

    /** Every letter of a long form, altered to each other one, is found and mended. */
    private static void everyHurt() {
        int groups = withNumbers("carriage 99887766 stop zzzzz 123 way").about(0, 2);
        for (int k = 0; k < groups; k++) {
            // An object is used for 512 calls at most.
            TelegraphHouse x = withNumbers("carriage 99887766 stop zzzzz 123 way");
            x.guard(0);
            int was = x.group(0, k);
            for (int place = 0; place < 5; place++) {
                for (int letter = 0; letter < 26; letter++) {
                    int old = x.hurt(0, k, place, letter);
                    Due.due("mend", x.mend(0), old == letter ? 0 : 1);
                    Due.due("group " + k, x.group(0, k), was);
                }
            }
            Due.due("expands", x.expands(0), 1);
        }
    }

    /** Letters of a longer form that was there before count no more. */
    private static void shorterForm() {
        TelegraphHouse x = Due.withBook(0, 1, "carriage way");
        x.book(0, 1);
        x.close(1);
        Due.message(x, "1 carriage way");
        Due.due("spelled", x.condense(0, 1), 5);
        x.guard(0);
        Due.due("condensed", x.condense(0, 0), 2);
        Due.due("one block", x.guard(0), 1);
        // 25 0 0 0 1, and sound group 0, which is five times 0.
        Due.due("A", x.sum(0, 0, 0), 26);
        Due.due("B", x.sum(0, 0, 1), 30);
        x.hurt(0, 1, 4, 9);
        Due.due("mends the last letter", x.mend(0), 1);
        Due.due("expands", x.expands(0), 1);
        nineThenEight();
    }

    /** The second block's last group alone: places behind its end are not looked at. */
    private static void nineThenEight() {
        TelegraphHouse x = Due.withBook(0, 1, "carriage way");
        x.book(0, 1);
        x.close(1);
        Due.message(x, "1 2 3 4 5 6 7 8 carriage way");
        Due.due("spelled", x.condense(0, 1), 12);
        Due.due("condensed", x.condense(0, 0), 9);
        Due.due("two blocks", x.guard(0), 2);
        Due.due("A", x.sum(0, 1, 0), 0);
        Due.due("B", x.sum(0, 1, 1), 0);
        // Place 4 takes 1 more and place 5 takes 2 more: no place of the block fits.
        x.hurt(0, 8, 3, 1);
        x.hurt(0, 8, 4, 2);
        Due.due("a = 3, b = 14", x.mend(0), 2);
        x.hurt(0, 8, 3, 0);
        Due.due("a = 2, b = 10", x.mend(0), 1);
    }
}
