/** Part 4, SUMS, and promises 17 to 22: each sentence with a bound has a test of its own. */
public final class SumEdgeTest {
    private static final int UNKNOWN = TelegraphHouse.UNKNOWN;
    private static final int OUTSIDE = TelegraphHouse.OUTSIDE;
    private static final int STATE = TelegraphHouse.STATE;
    private static final int NONE = TelegraphHouse.NONE;
    private static final int LEAST = Integer.MIN_VALUE;
    private static final int MOST = Integer.MAX_VALUE;
    private static final int RIGHT = 0;
    private static final int REPAIRED = 1;
    private static final int REFUSED = 2;

    public static void main(String[] args) {
        blocksOf8();
        placesInEachBlock();
        lettersModulo101();
        placesModulo101();
        guardedAsItIsNow();
        bothZero();
        aLetterAltered();
        noPlaceOfTheBlock();
        placeOfAnotherBlock();
        noPlaceOfAShorterBlock();
        letterBelow0();
        letterAbove25();
        neighboursChanged();
        neighboursOfAShorterBlock();
        justOnePlace();
        notInTheSameGroup();
        overTheBlocksEnd();
        nothingOfItChanges();
        allBlocks();
        mendRefused();
        mendedSinceGuarded();
        mendedBounds();
        guardRefused();
        sumBounds();
        hurtBounds();
        hurtLetters();
        swapBounds();
        swapAlike();
        Due.end();
    }

    /** A message whose form has so many groups (20 at most), all letters of which are 0. */
    private static TelegraphHouse zeros(int groups) {
        TelegraphHouse x = Due.withBook(0, 1);
        Due.message(x, "0 ".repeat(groups));
        x.condense(0, 0);
        for (int k = 0; k < groups; k++) {
            x.hurt(0, k, 0, 0);
        }
        return x;
    }

    /** The letter at a place (1 .. 40) of a block becomes another one. */
    private static int put(TelegraphHouse x, int block, int p, int letter) {
        return x.hurt(0, 8 * block + (p - 1) / 5, (p - 1) % 5, letter);
    }

    private static int letter(TelegraphHouse x, int block, int p) {
        int group = x.group(0, 8 * block + (p - 1) / 5);
        for (int i = (p - 1) % 5; i < 4; i++) {
            group /= 26;
        }
        return group % 26;
    }

    private static void blocksOf8() {
        Due.sentence("BLOCKS of 8 GROUPS (the last one may have fewer)");
        for (int groups = 1; groups <= 20; groups++) {
            TelegraphHouse x = zeros(groups);
            int blocks = groups <= 8 ? 1 : groups <= 16 ? 2 : 3;
            Due.due("blocks of " + groups, x.guard(0), blocks);
            Due.due("about", x.about(0, 5), blocks);
            Due.due("the last one", x.sum(0, blocks - 1, 0), 0);
            Due.due("no more", x.sum(0, blocks, 0), UNKNOWN);
            Due.due("none of them mended", x.mended(0, blocks - 1), NONE);
            Due.due("no more mended", x.mended(0, blocks), UNKNOWN);
        }
        TelegraphHouse x = Due.withBook(0, 1);
        Due.message(x, "zzzzzzzzzzzz ".repeat(20));
        x.condense(0, 0);
        Due.due("blocks of 80", x.guard(0), 10);
        Due.due("the tenth", x.sum(0, 9, 0) >= 0);
        Due.due("no eleventh", x.sum(0, 10, 0), UNKNOWN);
        x.hurt(0, 79, 4, 25);
        Due.due("its last letter", x.mend(0), REPAIRED);
        Due.due("in the tenth", x.mended(0, 9), REPAIRED);
        Due.due("as it was", x.expands(0), 1);
    }

    private static void placesInEachBlock() {
        Due.sentence("1 to 40 in each");
        for (int block = 0; block < 3; block++) {
            TelegraphHouse x = zeros(17);
            for (int p = 1; p <= (block < 2 ? 40 : 5); p++) {
                put(x, block, p, 1);
                x.guard(0);
                Due.due("A of block " + block + ", place " + p, x.sum(0, block, 0), 1);
                Due.due("B of block " + block + ", place " + p, x.sum(0, block, 1), p);
                Due.due("A of the next block", x.sum(0, (block + 1) % 3, 0), 0);
                put(x, block, p, 0);
            }
        }
    }

    private static void sums(int a, int b, int... letters) {
        TelegraphHouse x = zeros(1);
        for (int i = 0; i < letters.length; i++) {
            put(x, 0, i + 1, letters[i]);
        }
        x.guard(0);
        if (a >= 0) {
            Due.due("A", x.sum(0, 0, 0), a);
        }
        if (b >= 0) {
            Due.due("B", x.sum(0, 0, 1), b);
        }
    }

    private static void lettersModulo101() {
        Due.sentence("A, the sum of its letters");
        sums(0, 0, 0, 0, 0, 0, 0);
        sums(100, -1, 25, 25, 25, 25, 0);
        sums(0, -1, 25, 25, 25, 25, 1);
        sums(1, -1, 25, 25, 25, 25, 2);
        sums(24, -1, 25, 25, 25, 25, 25);
        TelegraphHouse x = zeros(8);
        for (int p = 1; p <= 40; p++) {
            put(x, 0, p, 25);
        }
        x.guard(0);
        Due.due("A of 1000", x.sum(0, 0, 0), 1000 - 909);
        Due.due("B of 20500", x.sum(0, 0, 1), 20500 % 101);
    }

    private static void placesModulo101() {
        Due.sentence("B, the sum of each place times its letter, both modulo 101");
        sums(-1, 100, 0, 25, 0, 0, 10);
        sums(-1, 0, 1, 25, 0, 0, 10);
        sums(-1, 1, 2, 25, 0, 0, 10);
        sums(-1, 375 - 303, 25, 25, 25, 25, 25);
    }

    private static void guardedAsItIsNow() {
        Due.sentence("A FORM is GUARDED, as it is now: how many BLOCKS.");
        TelegraphHouse x = zeros(9);
        put(x, 1, 5, 7);
        Due.due("guard", x.guard(0), 2);
        Due.due("A", x.sum(0, 1, 0), 7);
        put(x, 1, 5, 8);
        Due.due("A stays", x.sum(0, 1, 0), 7);
        Due.due("B stays", x.sum(0, 1, 1), 35);
        Due.due("guard again", x.guard(0), 2);
        Due.due("A now", x.sum(0, 1, 0), 8);
        Due.due("it is right so", x.mend(0), RIGHT);
        Due.due("its letter", letter(x, 1, 5), 8);
    }

    private static void bothZero() {
        Due.sentence("Both 0: it is RIGHT.");
        TelegraphHouse x = zeros(2);
        put(x, 0, 2, 5);
        x.guard(0);
        Due.due("nothing was hurt", x.mend(0), RIGHT);
        // One more at 1 and 3, two less at 2: a and b are 0, though three letters are others.
        put(x, 0, 1, 1);
        put(x, 0, 2, 3);
        put(x, 0, 3, 1);
        Due.due("the sums are right", x.mend(0), RIGHT);
        Due.due("found", x.mended(0, 0), RIGHT);
        Due.due("the letter stays", letter(x, 0, 2), 3);
    }

    private static void aLetterAltered() {
        Due.sentence("its letter less a, or less a and 101 more, is 0 .. 25, it becomes that: REPAIRED");
        int[] letters = {0, 1, 12, 24, 25};
        for (int p : new int[] {1, 2, 5, 6, 20, 36, 39, 40}) {
            for (int was : letters) {
                TelegraphHouse x = zeros(8);
                put(x, 0, p, was);
                x.guard(0);
                for (int now : letters) {
                    put(x, 0, p, now);
                    Due.due("place " + p + ", " + was + " to " + now, x.mend(0), was == now ? RIGHT : REPAIRED);
                    Due.due("its letter", letter(x, 0, p), was);
                }
            }
        }
    }

    /** One letter is two more and another one is one less, so that the sums tell a third place. */
    private static int mendTwo(TelegraphHouse x, int block, int twoMore, int oneLess) {
        put(x, block, twoMore, 7);
        put(x, block, oneLess, 4);
        return x.mend(0);
    }

    /** All letters of a block are 5, and the form is guarded. */
    private static TelegraphHouse fives(int groups, int block) {
        TelegraphHouse x = zeros(groups);
        int places = 5 * Math.min(8, groups - 8 * block);
        for (int p = 1; p <= places; p++) {
            put(x, block, p, 5);
        }
        x.guard(0);
        return x;
    }

    private static void noPlaceOfTheBlock() {
        Due.sentence("if there is a place p of it with p a = b modulo 101");
        Due.due("place 0", mendTwo(fives(8, 0), 0, 1, 2), REFUSED);
        Due.due("place 41", mendTwo(fives(8, 0), 0, 40, 39), REFUSED);
        TelegraphHouse x = fives(8, 0);
        Due.due("place 1", mendTwo(x, 0, 2, 3), REPAIRED);
        Due.due("its letter", letter(x, 0, 1), 4);
        TelegraphHouse y = fives(8, 0);
        Due.due("place 40", mendTwo(y, 0, 39, 38), REPAIRED);
        Due.due("its letter", letter(y, 0, 40), 4);
        TelegraphHouse z = fives(8, 0);
        Due.due("place 6 of a full block", mendTwo(z, 0, 4, 2), REPAIRED);
        Due.due("its letter", letter(z, 0, 6), 4);
    }

    /** Places 0 and 41 of block 1 would be in the blocks beside it, whose letters could take it. */
    private static void placeOfAnotherBlock() {
        Due.sentence("if there is a place p of it");
        for (int first : new int[] {1, 40}) {
            TelegraphHouse x = fives(17, 1);
            put(x, 0, 40, 5);
            put(x, 2, 1, 5);
            x.guard(0);
            Due.due(first == 1 ? "place 0" : "place 41", mendTwo(x, 1, first, first == 1 ? 2 : 39), REFUSED);
            Due.due("block 1", x.mended(0, 1), REFUSED);
            Due.due("the letter ahead stays", letter(x, 0, 40), 5);
            Due.due("the letter behind stays", letter(x, 2, 1), 5);
        }
    }

    private static void noPlaceOfAShorterBlock() {
        Due.sentence("a place p of it");
        for (int block = 0; block < 2; block++) {
            Due.due("place 6 of 5", mendTwo(fives(8 * block + 1, block), block, 4, 2), REFUSED);
            Due.due("place 5 of 5", mendTwo(fives(8 * block + 1, block), block, 4, 3), REPAIRED);
            Due.due("place 11 of 10", mendTwo(fives(8 * block + 2, block), block, 10, 9), REFUSED);
            Due.due("place 10 of 10", mendTwo(fives(8 * block + 2, block), block, 9, 8), REPAIRED);
            Due.due("place 36 of 35", mendTwo(fives(8 * block + 7, block), block, 34, 32), REFUSED);
            Due.due("place 35 of 35", mendTwo(fives(8 * block + 7, block), block, 34, 33), REPAIRED);
        }
    }

    /** Letters beside place 7 become as many more, so that the sums tell place 7 and twice that. */
    private static void beside(int here, int more, int want, int becomes) {
        TelegraphHouse x = zeros(8);
        put(x, 0, 6, 12);
        put(x, 0, 7, here);
        put(x, 0, 8, 12);
        x.guard(0);
        put(x, 0, 6, 12 + more);
        put(x, 0, 8, 12 + more);
        Due.due("letter " + here + ", a = " + 2 * more, x.mend(0), want);
        Due.due("found", x.mended(0, 0), want);
        Due.due("it is now", letter(x, 0, 7), becomes);
    }

    private static void letterBelow0() {
        Due.sentence("its letter less a .. is 0 .. 25 .. else REFUSED");
        beside(1, 1, REFUSED, 1);
        beside(2, 1, REPAIRED, 0);
        beside(3, 1, REPAIRED, 1);
        beside(23, 12, REFUSED, 23);
        beside(24, 12, REPAIRED, 0);
        beside(0, 12, REFUSED, 0);
        beside(25, 12, REPAIRED, 1);
        // By 1 alone: two more at 8, one less at 9.
        for (int here = 0; here < 3; here++) {
            TelegraphHouse x = fives(8, 0);
            put(x, 0, 7, here);
            x.guard(0);
            Due.due("letter " + here + ", a = 1", mendTwo(x, 0, 8, 9), here == 0 ? REFUSED : REPAIRED);
            Due.due("it is now", letter(x, 0, 7), Math.max(0, here - 1));
        }
    }

    private static void letterAbove25() {
        Due.sentence("or less a and 101 more, is 0 .. 25 .. else REFUSED");
        beside(22, -1, REPAIRED, 24);
        beside(23, -1, REPAIRED, 25);
        beside(24, -1, REFUSED, 24);
        beside(25, -1, REFUSED, 25);
        beside(1, -12, REPAIRED, 25);
        beside(2, -12, REFUSED, 2);
        beside(0, -12, REPAIRED, 24);
        // By 1 alone: two less at 8, one more at 9.
        for (int here = 23; here < 26; here++) {
            TelegraphHouse x = fives(8, 0);
            put(x, 0, 7, here);
            x.guard(0);
            put(x, 0, 8, 3);
            put(x, 0, 9, 6);
            Due.due("letter " + here + ", a = 100", x.mend(0), here == 25 ? REFUSED : REPAIRED);
            Due.due("it is now", letter(x, 0, 7), Math.min(25, here + 1));
        }
    }

    private static void neighboursChanged() {
        Due.sentence("so that the letter at p + 1 less that at p is b, or b less 101");
        int[][] pairs = {{0, 1}, {1, 0}, {0, 25}, {25, 0}, {24, 25}, {12, 3}};
        for (int k : new int[] {0, 1, 7}) {
            for (int place = 0; place < 4; place++) {
                for (int[] pair : pairs) {
                    TelegraphHouse x = zeros(8);
                    x.hurt(0, k, place, pair[0]);
                    x.hurt(0, k, place + 1, pair[1]);
                    int was = x.group(0, k);
                    x.guard(0);
                    x.swap(0, k, place);
                    String name = "group " + k + ", place " + place + ", " + pair[0] + " and " + pair[1];
                    Due.due(name, x.mend(0), REPAIRED);
                    Due.due(name + ": as it was", x.group(0, k), was);
                    Due.due(name + ": found", x.mended(0, 0), REPAIRED);
                }
            }
        }
    }

    /** Letters that a longer form left behind the end are no places of the block. */
    private static void neighboursOfAShorterBlock() {
        Due.sentence("BLOCKS of 8 GROUPS (the last one may have fewer)");
        TelegraphHouse x = Due.withBook(0, 1, "carriage way");
        x.book(0, 1);
        x.close(1);
        Due.message(x, "1 2 3 4 5 6 7 8 carriage way");
        Due.due("the longer form", x.condense(0, 1), 12);
        for (int k = 9; k < 12; k++) {
            Due.setGroup(x, 0, k, Due.group(0, 0, 1, 0, 0));
        }
        Due.due("the shorter form", x.condense(0, 0), 9);
        x.hurt(0, 8, 4, 1);
        x.guard(0);
        Due.due("A of the last block", x.sum(0, 1, 0), 1);
        x.swap(0, 8, 3);
        Due.due("only one place falls by 1", x.mend(0), REPAIRED);
        Due.due("as it was", x.group(0, 8), 1);
    }

    private static void justOnePlace() {
        Due.sentence("a 0: if there is just one place p");
        // 0 1 0 0 0 and 0 0 1 0 0: when the first is 1 0 0 0 0, places 1 and 8 fall by 1.
        TelegraphHouse x = zeros(2);
        put(x, 0, 2, 1);
        put(x, 0, 8, 1);
        x.guard(0);
        x.swap(0, 0, 0);
        Due.due("two places", x.mend(0), REFUSED);
        Due.due("nothing changes in the first", x.group(0, 0), Due.group(1, 0, 0, 0, 0));
        Due.due("nothing changes in the second", x.group(0, 1), Due.group(0, 0, 1, 0, 0));
        // Another letter behind place 8, and there is one place alone.
        TelegraphHouse y = zeros(2);
        put(y, 0, 2, 1);
        put(y, 0, 8, 1);
        put(y, 0, 9, 1);
        put(y, 0, 10, 1);
        y.guard(0);
        y.swap(0, 0, 0);
        Due.due("one place", y.mend(0), REPAIRED);
        // 1 at place 5 goes to place 1: b is 97, and no neighbours fall by 4.
        TelegraphHouse z = zeros(2);
        put(z, 0, 5, 1);
        z.guard(0);
        put(z, 0, 5, 0);
        put(z, 0, 1, 1);
        Due.due("no place", z.mend(0), REFUSED);
        Due.due("nothing changes", z.group(0, 0), Due.group(1, 0, 0, 0, 0));
        // Three places, so that the count of them is looked at, not whether there is another one.
        TelegraphHouse w = zeros(3);
        put(w, 0, 2, 1);
        put(w, 0, 8, 1);
        put(w, 0, 13, 1);
        w.guard(0);
        w.swap(0, 0, 0);
        Due.due("three places", w.mend(0), REFUSED);
    }

    private static void notInTheSameGroup() {
        Due.sentence("its neighbour p + 1 in the same GROUP");
        for (int k = 0; k < 7; k++) {
            TelegraphHouse x = zeros(8);
            x.hurt(0, k, 4, 3);
            x.hurt(0, k + 1, 0, 7);
            x.guard(0);
            x.hurt(0, k, 4, 7);
            x.hurt(0, k + 1, 0, 3);
            Due.due("groups " + k + " and " + (k + 1), x.mend(0), REFUSED);
            Due.due("nothing changes", x.group(0, k), 7);
        }
        // What falls by 1 over the end of a group is no second place.
        TelegraphHouse y = zeros(2);
        put(y, 0, 2, 1);
        put(y, 0, 5, 1);
        y.guard(0);
        y.swap(0, 0, 0);
        Due.due("one place in a group", y.mend(0), REPAIRED);
        Due.due("as it was", y.group(0, 0), Due.group(0, 1, 0, 0, 1));
    }

    /** Place 40 and place 1 of the next block: of each block one letter is altered. */
    private static void overTheBlocksEnd() {
        Due.sentence("The letters of a FORM have places in BLOCKS of 8 GROUPS");
        TelegraphHouse x = zeros(9);
        put(x, 0, 40, 3);
        put(x, 1, 1, 7);
        x.guard(0);
        put(x, 0, 40, 7);
        put(x, 1, 1, 3);
        Due.due("both are repaired", x.mend(0), REPAIRED);
        Due.due("block 0", x.mended(0, 0), REPAIRED);
        Due.due("block 1", x.mended(0, 1), REPAIRED);
        Due.due("place 40", letter(x, 0, 40), 3);
        Due.due("place 1", letter(x, 1, 1), 7);
    }

    private static void nothingOfItChanges() {
        Due.sentence("else REFUSED (nothing of it changes)");
        TelegraphHouse x = zeros(8);
        x.guard(0);
        // One more at 2 and 3: the place would be 5 / 2, 53 modulo 101.
        put(x, 0, 2, 1);
        put(x, 0, 3, 1);
        for (int i = 0; i < 3; i++) {
            Due.due("mend", x.mend(0), REFUSED);
            for (int k = 0; k < 8; k++) {
                Due.due("group " + k, x.group(0, k), k == 0 ? Due.group(0, 1, 1, 0, 0) : 0);
            }
            Due.due("A stays", x.sum(0, 0, 0), 0);
        }
        put(x, 0, 3, 0);
        Due.due("one letter alone", x.mend(0), REPAIRED);
    }

    /** Hurts a block so that mend() finds this of it; its letters were 0. */
    private static void hurtFor(TelegraphHouse x, int block, int finding) {
        if (finding == REPAIRED) {
            put(x, block, 4, 9);
        } else if (finding == REFUSED) {
            put(x, block, 2, 1);
            put(x, block, 3, 1);
        }
    }

    private static void allBlocks() {
        Due.sentence("0 all were RIGHT, 1 some were REPAIRED, none REFUSED, 2 some were REFUSED");
        for (int i = 0; i < 27; i++) {
            int[] findings = {i / 9, i / 3 % 3, i % 3};
            TelegraphHouse x = zeros(17);
            x.guard(0);
            int worst = 0;
            for (int block = 0; block < 3; block++) {
                hurtFor(x, block, findings[block]);
                worst = Math.max(worst, findings[block]);
            }
            Due.due("mend " + i, x.mend(0), worst);
            for (int block = 0; block < 3; block++) {
                Due.due("mend " + i + ", block " + block, x.mended(0, block), findings[block]);
                Due.due("place 4 is 0", letter(x, block, 4), 0);
                Due.due("place 3", letter(x, block, 3), findings[block] == REFUSED ? 1 : 0);
            }
            Due.due("mend " + i + " again", x.mend(0), worst == REFUSED ? REFUSED : RIGHT);
        }
    }

    private static void mendRefused() {
        Due.sentence("UNKNOWN; STATE: it is not GUARDED.");
        TelegraphHouse x = Due.withBook(0, 1);
        Due.message(x, "7");
        for (int m : new int[] {LEAST, -1, 1, 30, MOST}) {
            Due.due("mend(" + m + ")", x.mend(m), UNKNOWN);
        }
        Due.due("no form", x.mend(0), STATE);
        x.condense(0, 0);
        Due.due("not guarded", x.mend(0), STATE);
        x.guard(0);
        Due.due("guarded", x.mend(0), RIGHT);
        x.condense(0, 0);
        Due.due("not guarded any more", x.mend(0), STATE);
    }

    private static void mendedSinceGuarded() {
        Due.sentence("NONE: there was none since it was GUARDED.");
        TelegraphHouse x = zeros(9);
        x.guard(0);
        for (int block = 0; block < 2; block++) {
            Due.due("none yet", x.mended(0, block), NONE);
        }
        put(x, 1, 1, 1);
        x.mend(0);
        Due.due("block 0", x.mended(0, 0), RIGHT);
        Due.due("block 1", x.mended(0, 1), REPAIRED);
        put(x, 1, 1, 1);
        Due.due("the latest mend(), though it was hurt", x.mended(0, 1), REPAIRED);
        x.guard(0);
        Due.due("guarded anew, block 0", x.mended(0, 0), NONE);
        Due.due("guarded anew, block 1", x.mended(0, 1), NONE);
        x.mend(0);
        Due.due("the latest mend()", x.mended(0, 1), RIGHT);
    }

    private static void mendedBounds() {
        Due.sentence("What the latest mend() of a MESSAGE found of a BLOCK .. UNKNOWN: also the BLOCK.");
        TelegraphHouse x = zeros(9);
        Due.due("not guarded", x.mended(0, 0), UNKNOWN);
        x.guard(0);
        x.mend(0);
        for (int block : new int[] {LEAST, -1, 2, 10, MOST}) {
            Due.due("block " + block, x.mended(0, block), UNKNOWN);
        }
        for (int m : new int[] {LEAST, -1, 1, MOST}) {
            Due.due("message " + m, x.mended(m, 0), UNKNOWN);
        }
        Due.due("block 1", x.mended(0, 1), RIGHT);
    }

    private static void guardRefused() {
        Due.sentence("UNKNOWN; STATE: no FORM.");
        TelegraphHouse x = Due.withBook(0, 1);
        Due.message(x, "7");
        for (int m : new int[] {LEAST, -1, 1, 30, MOST}) {
            Due.due("guard(" + m + ")", x.guard(m), UNKNOWN);
        }
        Due.due("no form", x.guard(0), STATE);
        Due.due("no blocks", x.about(0, 5), 0);
        x.condense(0, 0);
        Due.due("a form", x.guard(0), 1);
    }

    private static void sumBounds() {
        Due.sentence("A (what = 0), B (1) of a BLOCK. UNKNOWN: also the BLOCK (it is not GUARDED); OUTSIDE.");
        TelegraphHouse x = zeros(9);
        Due.due("not guarded", x.sum(0, 0, 0), UNKNOWN);
        Due.due("not guarded, ahead of outside", x.sum(0, 0, 2), UNKNOWN);
        put(x, 1, 3, 2);
        x.guard(0);
        for (int block : new int[] {LEAST, -1, 2, 10, MOST}) {
            Due.due("block " + block, x.sum(0, block, 0), UNKNOWN);
            Due.due("block " + block + ", ahead of outside", x.sum(0, block, 2), UNKNOWN);
        }
        for (int what : new int[] {LEAST, -1, 2, MOST}) {
            Due.due("what = " + what, x.sum(0, 1, what), OUTSIDE);
        }
        for (int m : new int[] {LEAST, -1, 1, MOST}) {
            Due.due("message " + m, x.sum(m, 0, 0), UNKNOWN);
        }
        Due.due("A", x.sum(0, 1, 0), 2);
        Due.due("B", x.sum(0, 1, 1), 6);
    }

    private static void hurtBounds() {
        Due.sentence("A letter (0 .. 25) of GROUP k (place 0 .. 4) becomes another one: what it was. UNKNOWN; OUTSIDE.");
        TelegraphHouse x = zeros(2);
        for (int place : new int[] {LEAST, -1, 5, MOST}) {
            Due.due("place " + place, x.hurt(0, 0, place, 1), OUTSIDE);
        }
        for (int letter : new int[] {LEAST, -1, 26, MOST}) {
            Due.due("letter " + letter, x.hurt(0, 0, 0, letter), OUTSIDE);
        }
        for (int k : new int[] {LEAST, -1, 2, 80, 858993460, MOST}) {
            Due.due("group " + k, x.hurt(0, k, 0, 1), UNKNOWN);
            Due.due("group " + k + ", ahead of outside", x.hurt(0, k, 5, 26), UNKNOWN);
        }
        for (int m : new int[] {LEAST, -1, 1, MOST}) {
            Due.due("message " + m, x.hurt(m, 0, 0, 1), UNKNOWN);
        }
        Due.due("group 0 stays", x.group(0, 0), 0);
        Due.due("group 1 stays", x.group(0, 1), 0);
        Due.message(x, "a");
        Due.due("no form", x.hurt(1, 0, 0, 1), UNKNOWN);
    }

    private static void hurtLetters() {
        Due.sentence("becomes another one: what it was");
        for (int place = 0; place < 5; place++) {
            TelegraphHouse x = zeros(2);
            int was = 0;
            for (int letter : new int[] {25, 1, 0, 24}) {
                Due.due("place " + place + " to " + letter, x.hurt(0, 1, place, letter), was);
                was = letter;
            }
            int[] l = new int[5];
            l[place] = 24;
            Due.due("the group then", x.group(0, 1), Due.group(l[0], l[1], l[2], l[3], l[4]));
            Due.due("the other group", x.group(0, 0), 0);
        }
    }

    private static void swapBounds() {
        Due.sentence("Letters at place and place + 1 (0 .. 3) of GROUP k are changed for one another");
        for (int place = 0; place < 4; place++) {
            TelegraphHouse x = zeros(2);
            int[] l = {1, 2, 3, 4, 5};
            Due.setGroup(x, 0, 1, Due.group(1, 2, 3, 4, 5));
            Due.due("place " + place, x.swap(0, 1, place), 1);
            l[place] = place + 2;
            l[place + 1] = place + 1;
            Due.due("the group then", x.group(0, 1), Due.group(l[0], l[1], l[2], l[3], l[4]));
            Due.due("the other group", x.group(0, 0), 0);
        }
        TelegraphHouse x = zeros(2);
        Due.setGroup(x, 0, 0, Due.group(1, 2, 3, 4, 5));
        for (int place : new int[] {LEAST, -1, 4, 5, MOST}) {
            Due.due("place " + place, x.swap(0, 0, place), OUTSIDE);
        }
        for (int k : new int[] {LEAST, -1, 2, 80, 858993460, MOST}) {
            Due.due("group " + k, x.swap(0, k, 0), UNKNOWN);
            Due.due("group " + k + ", ahead of outside", x.swap(0, k, 4), UNKNOWN);
        }
        for (int m : new int[] {LEAST, -1, 1, MOST}) {
            Due.due("message " + m, x.swap(m, 0, 0), UNKNOWN);
        }
        Due.due("group 0 stays", x.group(0, 0), Due.group(1, 2, 3, 4, 5));
        Due.message(x, "a");
        Due.due("no form", x.swap(1, 0, 0), UNKNOWN);
    }

    private static void swapAlike() {
        Due.sentence("1; 0: they are alike.");
        TelegraphHouse x = zeros(1);
        for (int place = 0; place < 4; place++) {
            Due.due("alike at " + place, x.swap(0, 0, place), 0);
        }
        Due.due("as it was", x.group(0, 0), 0);
        x.hurt(0, 0, 2, 1);
        int[] want = {0, 1, 0, 0};
        for (int place = 0; place < 4; place++) {
            Due.due("place " + place, x.swap(0, 0, place), want[place]);
        }
        Due.due("the 1 went ahead by one place", x.group(0, 0), Due.group(0, 1, 0, 0, 0));
    }
}
