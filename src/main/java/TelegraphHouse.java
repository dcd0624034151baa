import java.util.Arrays;

/**
 * A telegraph house: code books, messages condensed to groups of five letters,
 * sums that mend them, charges, and a net of stations that carries them.
 *
 * <p>No call throws: a wrong number is answered by one of the refusals below.
 */
public final class TelegraphHouse {
    public static final int UNKNOWN = -1, OUTSIDE = -2, STATE = -3, FULL = -4, NONE = -9;

    private static final int FAULT_BASE = -100;
    private static final int NO_FAULT = -1;

    private static final int MOST_BYTES = 300;
    private static final int MOST_TOKENS = 20;
    private static final int MOST_LETTERS = 12;
    private static final int MOST_DIGITS = 9;
    private static final int LETTER_BITS = 5;
    private static final int LETTER_MASK = 31;
    private static final int MOST_MESSAGES = 30;
    private static final int MOST_BOOKS = 3;
    private static final int MOST_START = 5000;
    private static final int MOST_STEP = 9;
    private static final int MOST_PHRASES = 30;
    private static final int MOST_WORDS = 4;
    private static final int SOUND_GROUPS = 10000;

    private static final int ALPHABET = 26;
    private static final int GROUP_LETTERS = 5;
    // Twenty words of twelve letters take four groups each: no form is longer.
    private static final int MOST_GROUPS = MOST_TOKENS * 4;
    private static final int BLOCK_GROUPS = 8;
    private static final int BLOCK_LETTERS = BLOCK_GROUPS * GROUP_LETTERS;
    private static final int MOST_BLOCKS = MOST_GROUPS / BLOCK_GROUPS;
    private static final int SUM_MODULUS = 101;

    private static final int SPELLED_LEAD = 23;
    private static final int HIGH_LEAD = 24;
    private static final int NUMBER_LEAD = 25;
    private static final int DIGIT_BASE = 24;
    private static final int ONE_GROUP_NUMBERS = 331776;
    private static final int MOST_NUMBER = 999999999;

    private static final int PHRASE_PART = 0;
    private static final int SPELLED_PART = 1;
    private static final int NUMBER_PART = 2;

    private static final int RIGHT = 0;
    private static final int REPAIRED = 1;
    private static final int REFUSED = 2;

    private static final int LEAST_CHARGED = 5;
    private static final int[] ZONE_CENTS = {3, 5, 9, 14};

    private static final int MOST_STATIONS = 8;
    private static final int MOST_LINES = 12;
    private static final int MOST_MINUTES = 60;
    private static final int DAY_HOURS = 24;
    private static final int HOUR_MINUTES = 60;
    private static final int MOST_PRIORITY = 2;
    private static final int MOST_STEPS = 300;
    private static final int MOST_CLOCK = 6000;

    private static final int NOT_SENT = 0;
    private static final int WAITS = 1;
    private static final int RUNS = 2;
    private static final int HAS_COME = 3;
    private static final int LOST = 4;

    private final Tape tape = new Tape();
    private final SoundGroups soundGroups = new SoundGroups();
    private final Book[] books = new Book[MOST_BOOKS];
    private int bookCount;
    private final Message[] messages = new Message[MOST_MESSAGES];
    private int messageCount;
    private final Condenser condenser = new Condenser();
    private final Expander expander = new Expander();
    private final Net net = new Net();

    public TelegraphHouse() {
    }

    // ---- the tape

    public int feed(long w) {
        return tape.append(w);
    }

    public int cut(int n) {
        return tape.shorten(n);
    }

    public int message() {
        if (messageCount >= MOST_MESSAGES) {
            return FULL;
        }
        int fault = tape.read();
        if (fault != NO_FAULT) {
            return FAULT_BASE - fault;
        }
        messages[messageCount] = new Message(tape.tokens, tape.tokenCount);
        net.addJourney();
        tape.clear();
        messageCount++;
        return messageCount - 1;
    }

    // ---- books

    public int book(int start, int step) {
        if (!within(start, 0, MOST_START) || !within(step, 1, MOST_STEP)) {
            return OUTSIDE;
        }
        if (bookCount >= MOST_BOOKS) {
            return FULL;
        }
        books[bookCount] = new Book(start, step);
        bookCount++;
        return bookCount - 1;
    }

    public int phrase(int book) {
        Book b = bookAt(book);
        if (b == null) {
            return UNKNOWN;
        }
        int fault = tape.read();
        if (fault != NO_FAULT) {
            return FAULT_BASE - fault;
        }
        if (tape.tokenCount > MOST_WORDS || tape.hasNumber()) {
            return OUTSIDE;
        }
        if (b.closed || b.holds(tape.tokens, tape.tokenCount)) {
            return STATE;
        }
        if (b.phraseCount >= MOST_PHRASES) {
            return FULL;
        }
        b.addPhrase(tape.tokens, tape.tokenCount);
        tape.clear();
        return b.phraseCount;
    }

    public int close(int book) {
        Book b = bookAt(book);
        if (b == null) {
            return UNKNOWN;
        }
        if (b.closed) {
            return STATE;
        }
        b.seal(soundGroups);
        return b.phraseCount;
    }

    public int groupOf(int book, int k) {
        Book b = bookAt(book);
        if (b == null || !b.hasPhrase(k)) {
            return UNKNOWN;
        }
        return b.closed ? b.groups[k] : STATE;
    }

    public int sound(int n) {
        return within(n, 0, SOUND_GROUPS - 1) ? soundGroups.at(n) : OUTSIDE;
    }

    public int distance(int book) {
        Book b = bookAt(book);
        if (b == null) {
            return UNKNOWN;
        }
        return b.closed ? b.leastDistance() : STATE;
    }

    // ---- messages

    public int about(int message, int what) {
        Message m = messageAt(message);
        if (m == null) {
            return UNKNOWN;
        }
        switch (what) {
            case 0: return m.tokenCount;
            case 1: return m.chargedCount();
            case 2: return m.form.groupCount;
            case 3: return m.form.book;
            case 4: return m.form.partCount;
            case 5: return m.form.blockCount;
            default: return OUTSIDE;
        }
    }

    public int condense(int message, int book) {
        Message m = messageAt(message);
        Book b = bookAt(book);
        if (m == null || b == null) {
            return UNKNOWN;
        }
        if (!b.closed || net.wasSent(message)) {
            return STATE;
        }
        condenser.weigh(m, b);
        condenser.write(m, b, book);
        return m.form.groupCount;
    }

    public int part(int message, int i, int what) {
        Message m = messageAt(message);
        if (m == null || !within(i, 0, m.form.partCount - 1)) {
            return UNKNOWN;
        }
        switch (what) {
            case 0: return m.form.partSorts[i];
            case 1: return m.form.partCovers[i];
            case 2: return m.form.partPhrases[i];
            default: return OUTSIDE;
        }
    }

    public int group(int message, int k) {
        Message m = messageAt(message);
        if (m == null || !m.form.hasGroup(k)) {
            return UNKNOWN;
        }
        return m.form.groupNumber(k);
    }

    public int expands(int message) {
        Message m = messageAt(message);
        if (m == null) {
            return UNKNOWN;
        }
        Book b = bookAt(m.form.book);
        if (b == null) {
            return STATE;
        }
        return expander.compare(m, b);
    }

    public int best(int message) {
        Message m = messageAt(message);
        if (m == null) {
            return UNKNOWN;
        }
        int found = NONE;
        int fewest = MOST_GROUPS + 1;
        for (int i = 0; i < MOST_BOOKS; i++) {
            Book b = bookAt(i);
            if (b != null && b.closed) {
                int groups = condenser.weigh(m, b);
                if (groups < fewest) {
                    fewest = groups;
                    found = i;
                }
            }
        }
        return found;
    }

    // ---- sums

    public int guard(int message) {
        Message m = messageAt(message);
        if (m == null) {
            return UNKNOWN;
        }
        if (m.form.groupCount == 0) {
            return STATE;
        }
        m.form.takeSums();
        return m.form.blockCount;
    }

    public int sum(int message, int block, int what) {
        Message m = messageAt(message);
        if (m == null || !m.form.hasBlock(block)) {
            return UNKNOWN;
        }
        switch (what) {
            case 0: return m.form.letterSums[block];
            case 1: return m.form.placeSums[block];
            default: return OUTSIDE;
        }
    }

    public int hurt(int message, int k, int place, int letter) {
        Message m = messageAt(message);
        if (m == null || !m.form.hasGroup(k)) {
            return UNKNOWN;
        }
        if (!within(place, 0, GROUP_LETTERS - 1) || !within(letter, 0, ALPHABET - 1)) {
            return OUTSIDE;
        }
        return m.form.replaceLetter(k, place, letter);
    }

    public int swap(int message, int k, int place) {
        Message m = messageAt(message);
        if (m == null || !m.form.hasGroup(k)) {
            return UNKNOWN;
        }
        if (!within(place, 0, GROUP_LETTERS - 2)) {
            return OUTSIDE;
        }
        int left = m.form.letterAt(k, place);
        int right = m.form.replaceLetter(k, place + 1, left);
        m.form.replaceLetter(k, place, right);
        return left == right ? 0 : 1;
    }

    public int mend(int message) {
        Message m = messageAt(message);
        if (m == null) {
            return UNKNOWN;
        }
        if (m.form.blockCount == 0) {
            return STATE;
        }
        return m.form.mendBlocks();
    }

    public int mended(int message, int block) {
        Message m = messageAt(message);
        if (m == null || !m.form.hasBlock(block)) {
            return UNKNOWN;
        }
        return m.form.findings[block];
    }

    // ---- charges

    public int charge(int message, int zone, boolean urgent, boolean night, boolean reply) {
        Message m = messageAt(message);
        if (m == null) {
            return UNKNOWN;
        }
        if (!within(zone, 0, ZONE_CENTS.length - 1)) {
            return OUTSIDE;
        }
        if (urgent && night) {
            return STATE;
        }
        int cents = Math.max(LEAST_CHARGED, m.chargedCount()) * ZONE_CENTS[zone];
        if (urgent) {
            cents = 3 * cents;
        }
        if (night) {
            cents = (cents + 1) / 2;
        }
        return reply ? cents + 10 * ZONE_CENTS[zone] : cents;
    }

    // ---- the net

    public int station() {
        return net.addStation();
    }

    public int line(int a, int b, int minutes, int from, int to) {
        if (!net.hasStation(a) || !net.hasStation(b)) {
            return UNKNOWN;
        }
        if (!within(minutes, 1, MOST_MINUTES)
                || !within(from, 0, DAY_HOURS - 1) || !within(to, 0, DAY_HOURS - 1)) {
            return OUTSIDE;
        }
        if (a == b) {
            return STATE;
        }
        return net.addLine(a, b, minutes, from, to);
    }

    public int path(int a, int b, int i) {
        if (!net.hasStation(a) || !net.hasStation(b)) {
            return UNKNOWN;
        }
        return net.findRoute(a, b) ? net.route.stationAt(i) : NONE;
    }

    public int far(int a, int b) {
        if (!net.hasStation(a) || !net.hasStation(b)) {
            return UNKNOWN;
        }
        return net.minutesBetween(a, b);
    }

    public int send(int message, int a, int b, int priority) {
        Message m = messageAt(message);
        if (m == null || !net.hasStation(a) || !net.hasStation(b)) {
            return UNKNOWN;
        }
        if (!within(priority, 0, MOST_PRIORITY)) {
            return OUTSIDE;
        }
        if (net.wasSent(message) || a == b || !net.findRoute(a, b)) {
            return STATE;
        }
        return net.dispatch(message, priority, m.chargedCount());
    }

    public int step(int n) {
        if (!within(n, 1, MOST_STEPS)) {
            return OUTSIDE;
        }
        if (net.minute + n > MOST_CLOCK) {
            return FULL;
        }
        int come = 0;
        for (int i = 0; i < n; i++) {
            come += net.passMinute();
        }
        return come;
    }

    public int clock() {
        return net.minute;
    }

    public int where(int message, int what) {
        Journey j = net.journeyAt(message);
        if (j == null) {
            return UNKNOWN;
        }
        switch (what) {
            case 0: return j.state;
            case 1: return j.place;
            case 2: return j.cameAt;
            case 3: return j.timesLost;
            default: return OUTSIDE;
        }
    }

    public int queue(int station, int k) {
        return net.hasStation(station) ? net.waitingAt(station, k) : UNKNOWN;
    }

    public int lose(int line) {
        Line l = net.lineAt(line);
        if (l == null) {
            return UNKNOWN;
        }
        l.toLose++;
        return l.toLose;
    }

    public int ask(int station) {
        return net.hasStation(station) ? net.askFor(station) : UNKNOWN;
    }

    public int ledger(int station, int what) {
        return net.noted(station, what);
    }

    public int count(int what) {
        switch (what) {
            case 0: return bookCount;
            case 1: return messageCount;
            case 2: return net.stationCount;
            case 3: return net.lineCount;
            case 4: return tape.length;
            case 5: return net.inState(WAITS);
            case 6: return net.inState(RUNS);
            case 7: return net.inState(HAS_COME);
            case 8: return net.inState(LOST);
            default: return OUTSIDE;
        }
    }

    private Book bookAt(int n) {
        return within(n, 0, bookCount - 1) ? books[n] : null;
    }

    private Message messageAt(int n) {
        return within(n, 0, messageCount - 1) ? messages[n] : null;
    }

    private static boolean within(int n, int least, int most) {
        return n >= least && n <= most;
    }

    // A token is held as one long, so that two are alike just if their longs are: a number v as
    // -1 - v, a word as its letters (1 .. 26, five bits each), the first one highest.

    private static boolean isNumber(long token) {
        return token < 0;
    }

    private static long numberToken(long value) {
        return -1 - value;
    }

    private static int numberValue(long token) {
        return (int) (-1 - token);
    }

    private static long withLetter(long word, int letter) {
        return (word << LETTER_BITS) + letter + 1;
    }

    private static int lettersIn(long word) {
        int n = 0;
        while (n < MOST_LETTERS && (word >>> (LETTER_BITS * n)) != 0) {
            n++;
        }
        return n;
    }

    /** Letter i of a word of n letters; 0 behind its end, as a spelled word has it. */
    private static int letterOf(long word, int n, int i) {
        if (i < 0 || i >= n) {
            return 0;
        }
        return (int) (word >>> (LETTER_BITS * (n - 1 - i)) & LETTER_MASK) - 1;
    }

    private static int digitsIn(int value) {
        int n = 1;
        int rest = value / 10;
        while (n < MOST_DIGITS && rest > 0) {
            n++;
            rest = rest / 10;
        }
        return n;
    }

    private static int groupsFor(long token) {
        if (isNumber(token)) {
            return numberValue(token) < ONE_GROUP_NUMBERS ? 1 : 2;
        }
        return 1 + lettersIn(token) / 4;
    }

    private static int chargedWords(long token) {
        if (isNumber(token)) {
            return (digitsIn(numberValue(token)) + 4) / 5;
        }
        return (lettersIn(token) + 9) / 10;
    }

    /** The tape, and the tokens that were last read from it. */
    private static final class Tape {
        private static final int BLANK = 0;
        private static final int LETTER = 1;
        private static final int DIGIT = 2;
        private static final int OTHER = 3;
        private static final int FEED_BYTES = 8;

        private final int[] bytes = new int[MOST_BYTES];
        int length;
        final long[] tokens = new long[MOST_TOKENS];
        int tokenCount;
        private int openSort;
        private int openSize;
        private long openValue;

        int append(long w) {
            int more = bytesAheadOfZero(w);
            if (length + more > MOST_BYTES) {
                return FULL;
            }
            for (int i = 0; i < more; i++) {
                bytes[length + i] = byteOf(w, i);
            }
            length += more;
            return length;
        }

        int shorten(int n) {
            if (!within(n, 0, length)) {
                return OUTSIDE;
            }
            int gone = length - n;
            length = n;
            return gone;
        }

        void clear() {
            length = 0;
        }

        /** Reads the tokens: the place of the fault, or NO_FAULT. */
        int read() {
            tokenCount = 0;
            openSort = BLANK;
            for (int i = 0; i < length; i++) {
                int sort = sortOf(bytes[i]);
                if (sort == BLANK) {
                    openSort = BLANK;
                } else if (!takes(sort, bytes[i])) {
                    return i;
                }
            }
            return tokenCount == 0 ? length : NO_FAULT;
        }

        boolean hasNumber() {
            for (int i = 0; i < tokenCount; i++) {
                if (isNumber(tokens[i])) {
                    return true;
                }
            }
            return false;
        }

        private boolean takes(int sort, int b) {
            if (sort == OTHER) {
                return false;
            }
            if (openSort != BLANK) {
                return sort == openSort && mayGrow() && grow(b);
            }
            if (tokenCount >= MOST_TOKENS) {
                return false;
            }
            tokenCount++;
            openSort = sort;
            openSize = 0;
            openValue = 0;
            return grow(b);
        }

        private boolean mayGrow() {
            if (openSort == LETTER) {
                return openSize < MOST_LETTERS;
            }
            // A value of 0 means that the number began with a 0, behind which no digit may come.
            return openSize < MOST_DIGITS && openValue != 0;
        }

        private boolean grow(int b) {
            openSize++;
            int last = tokenCount - 1;
            if (last < 0) {
                return false;
            }
            if (openSort == LETTER) {
                openValue = withLetter(openValue, b - 'a');
                tokens[last] = openValue;
            } else {
                openValue = openValue * 10 + (b - '0');
                tokens[last] = numberToken(openValue);
            }
            return true;
        }

        private static int sortOf(int b) {
            if (b == ' ') {
                return BLANK;
            }
            if (b >= 'a' && b <= 'z') {
                return LETTER;
            }
            return b >= '0' && b <= '9' ? DIGIT : OTHER;
        }

        private static int bytesAheadOfZero(long w) {
            int n = 0;
            while (n < FEED_BYTES && byteOf(w, n) != 0) {
                n++;
            }
            return n;
        }

        private static int byteOf(long w, int i) {
            return (int) (w >>> (8 * i) & 255);
        }
    }

    /** The sound groups by their numbers, found once and as far as they were asked for. */
    private static final class SoundGroups {
        private static final int HEADS = 23 * ALPHABET * ALPHABET * ALPHABET;
        private static final int HALF = ALPHABET / 2;

        private final int[] groups = new int[SOUND_GROUPS];
        private int known;
        private int head;

        int at(int n) {
            if (n < 0 || n >= SOUND_GROUPS) {
                return NONE;
            }
            while (known <= n && head < HEADS) {
                int group = soundWith(head);
                if (group != NONE) {
                    groups[known] = group;
                    known++;
                }
                head++;
            }
            return groups[n];
        }

        /** The sound group with these four letters ahead; NONE if there is none. */
        private static int soundWith(int head) {
            int d = head % ALPHABET;
            int c = head / ALPHABET % ALPHABET;
            int b = head / (ALPHABET * ALPHABET) % ALPHABET;
            int a = head / (ALPHABET * ALPHABET * ALPHABET);
            int weighed = (a + 3 * b + 7 * c + 15 * d) % ALPHABET;
            // 5 times 21 is 1 modulo 26: just one last letter brings the sum to 0.
            int e = (ALPHABET - weighed) * 21 % ALPHABET;
            boolean clash = clash(a, b) || clash(b, c) || clash(c, d) || clash(d, e);
            return clash ? NONE : head * ALPHABET + e;
        }

        private static boolean clash(int left, int right) {
            return Math.abs(left - right) == HALF;
        }
    }

    /** A code book: phrases, and their groups once it is closed. */
    private static final class Book {
        private final int start;
        private final int stride;
        private final long[] words = new long[MOST_PHRASES * MOST_WORDS];
        final int[] sizes = new int[MOST_PHRASES];
        final int[] groups = new int[MOST_PHRASES];
        int phraseCount;
        boolean closed;

        Book(int start, int stride) {
            this.start = start;
            this.stride = stride;
        }

        boolean hasPhrase(int k) {
            return within(k, 0, phraseCount - 1);
        }

        long wordOf(int phrase, int i) {
            return words[phrase * MOST_WORDS + i];
        }

        void addPhrase(long[] tokens, int size) {
            if (phraseCount >= MOST_PHRASES || size > MOST_WORDS || size > tokens.length) {
                return;
            }
            for (int i = 0; i < size; i++) {
                words[phraseCount * MOST_WORDS + i] = tokens[i];
            }
            sizes[phraseCount] = size;
            phraseCount++;
        }

        boolean holds(long[] tokens, int size) {
            for (int p = 0; p < phraseCount; p++) {
                if (sizes[p] == size && standsAt(p, tokens, size, 0)) {
                    return true;
                }
            }
            return false;
        }

        /** Whether the words of a phrase stand in a row of n tokens from one place on. */
        boolean standsAt(int phrase, long[] tokens, int n, int from) {
            int size = sizes[phrase];
            if (from < 0 || from + size > n || n > tokens.length) {
                return false;
            }
            for (int i = 0; i < size; i++) {
                if (tokens[from + i] != wordOf(phrase, i)) {
                    return false;
                }
            }
            return true;
        }

        void seal(SoundGroups sounds) {
            for (int p = 0; p < phraseCount; p++) {
                groups[p] = sounds.at(start + p * stride);
            }
            closed = true;
        }

        int phraseWithGroup(int group) {
            for (int p = 0; p < phraseCount; p++) {
                if (groups[p] == group) {
                    return p;
                }
            }
            return NONE;
        }

        int leastDistance() {
            if (phraseCount < 2) {
                return NONE;
            }
            int least = GROUP_LETTERS;
            for (int p = 1; p < phraseCount; p++) {
                for (int q = 0; q < p; q++) {
                    least = Math.min(least, unlikePlaces(groups[p], groups[q]));
                }
            }
            return least;
        }

        private static int unlikePlaces(int group, int other) {
            int unlike = 0;
            int g = group;
            int o = other;
            for (int i = 0; i < GROUP_LETTERS; i++) {
                if (g % ALPHABET != o % ALPHABET) {
                    unlike++;
                }
                g = g / ALPHABET;
                o = o / ALPHABET;
            }
            return unlike;
        }
    }

    /** A message: its tokens, and the form that it was condensed to, if it was. */
    private static final class Message {
        final long[] tokens = new long[MOST_TOKENS];
        final int tokenCount;
        final Form form = new Form();

        Message(long[] read, int n) {
            tokenCount = Math.min(n, Math.min(read.length, MOST_TOKENS));
            for (int i = 0; i < tokenCount; i++) {
                tokens[i] = read[i];
            }
        }

        int chargedCount() {
            if (form.groupCount > 0) {
                return form.groupCount;
            }
            int words = 0;
            for (int i = 0; i < tokenCount; i++) {
                words += chargedWords(tokens[i]);
            }
            return words;
        }
    }

    /** The groups of a condensed message, its parts, and the sums of its blocks. */
    private static final class Form {
        private final int[] letters = new int[MOST_GROUPS * GROUP_LETTERS];
        int groupCount;
        int book = NONE;
        final int[] partSorts = new int[MOST_TOKENS];
        final int[] partCovers = new int[MOST_TOKENS];
        final int[] partPhrases = new int[MOST_TOKENS];
        int partCount;
        final int[] letterSums = new int[MOST_BLOCKS];
        final int[] placeSums = new int[MOST_BLOCKS];
        final int[] findings = new int[MOST_BLOCKS];
        int blockCount;

        void restart(int newBook) {
            book = newBook;
            groupCount = 0;
            partCount = 0;
            blockCount = 0;
        }

        boolean hasGroup(int k) {
            return within(k, 0, groupCount - 1);
        }

        boolean hasBlock(int block) {
            return within(block, 0, blockCount - 1);
        }

        int letterAt(int k, int place) {
            int i = k * GROUP_LETTERS + place;
            return i >= 0 && i < letters.length ? letters[i] : 0;
        }

        int replaceLetter(int k, int place, int letter) {
            int i = k * GROUP_LETTERS + place;
            if (i < 0 || i >= letters.length) {
                return 0;
            }
            int was = letters[i];
            letters[i] = letter;
            return was;
        }

        int groupNumber(int k) {
            int number = 0;
            for (int place = 0; place < GROUP_LETTERS; place++) {
                number = number * ALPHABET + letterAt(k, place);
            }
            return number;
        }

        void addPart(int sort, int cover, int phrase) {
            if (partCount >= MOST_TOKENS) {
                return;
            }
            partSorts[partCount] = sort;
            partCovers[partCount] = cover;
            partPhrases[partCount] = phrase;
            partCount++;
        }

        void addGroup(int group) {
            if (groupCount >= MOST_GROUPS) {
                return;
            }
            int rest = group;
            for (int place = GROUP_LETTERS - 1; place >= 0; place--) {
                replaceLetter(groupCount, place, rest % ALPHABET);
                rest = rest / ALPHABET;
            }
            groupCount++;
        }

        void addNumber(int value) {
            if (value < ONE_GROUP_NUMBERS) {
                addDigits(NUMBER_LEAD, value);
            } else {
                addDigits(HIGH_LEAD, value / ONE_GROUP_NUMBERS);
                addDigits(NUMBER_LEAD, value % ONE_GROUP_NUMBERS);
            }
        }

        private void addDigits(int lead, int value) {
            if (groupCount >= MOST_GROUPS) {
                return;
            }
            int rest = value;
            for (int place = GROUP_LETTERS - 1; place > 0; place--) {
                replaceLetter(groupCount, place, rest % DIGIT_BASE);
                rest = rest / DIGIT_BASE;
            }
            replaceLetter(groupCount, 0, lead);
            groupCount++;
        }

        void addSpelled(long word) {
            int n = lettersIn(word);
            int more = 1 + n / 4;
            if (groupCount + more > MOST_GROUPS) {
                return;
            }
            for (int g = 0; g < more; g++) {
                replaceLetter(groupCount + g, 0, SPELLED_LEAD);
                for (int place = 1; place < GROUP_LETTERS; place++) {
                    replaceLetter(groupCount + g, place, letterOf(word, n, spelledIndex(g, place)));
                }
            }
            replaceLetter(groupCount, 1, n);
            groupCount += more;
        }

        /** Which letter of a word its spelled group g has at a place; -1 where n stands. */
        static int spelledIndex(int g, int place) {
            return g * 4 + place - 2;
        }

        void takeSums() {
            blockCount = Math.min(MOST_BLOCKS, (groupCount + BLOCK_GROUPS - 1) / BLOCK_GROUPS);
            for (int block = 0; block < blockCount; block++) {
                letterSums[block] = letterSum(block);
                placeSums[block] = placeSum(block);
                findings[block] = NONE;
            }
        }

        private int lettersInBlock(int block) {
            return Math.min(BLOCK_LETTERS, groupCount * GROUP_LETTERS - block * BLOCK_LETTERS);
        }

        /** The letter at a place of a block; its places begin with 1. */
        private int blockLetter(int block, int place) {
            return letterAt(0, block * BLOCK_LETTERS + place - 1);
        }

        private void setBlockLetter(int block, int place, int letter) {
            replaceLetter(0, block * BLOCK_LETTERS + place - 1, letter);
        }

        private int letterSum(int block) {
            int total = 0;
            int places = lettersInBlock(block);
            for (int p = 1; p <= places; p++) {
                total += blockLetter(block, p);
            }
            return total % SUM_MODULUS;
        }

        private int placeSum(int block) {
            int total = 0;
            int places = lettersInBlock(block);
            for (int p = 1; p <= places; p++) {
                total += p * blockLetter(block, p);
            }
            return total % SUM_MODULUS;
        }

        /** Mends all blocks: the worst finding, which is what all of them together are. */
        int mendBlocks() {
            int worst = RIGHT;
            for (int block = 0; block < blockCount; block++) {
                findings[block] = mendBlock(block);
                worst = Math.max(worst, findings[block]);
            }
            return worst;
        }

        private int mendBlock(int block) {
            int a = Math.floorMod(letterSum(block) - letterSums[block], SUM_MODULUS);
            int b = Math.floorMod(placeSum(block) - placeSums[block], SUM_MODULUS);
            if (a == 0 && b == 0) {
                return RIGHT;
            }
            return a == 0 ? mendNeighbours(block, b) : mendLetter(block, a, b);
        }

        private int mendLetter(int block, int a, int b) {
            int places = lettersInBlock(block);
            for (int p = 1; p <= places; p++) {
                if (p * a % SUM_MODULUS == b) {
                    // No other place can fit: a is not 0, 101 is a prime and above all places.
                    return putBack(block, p, blockLetter(block, p) - a);
                }
            }
            return REFUSED;
        }

        private int putBack(int block, int place, int letter) {
            int right = letter < 0 ? letter + SUM_MODULUS : letter;
            if (!within(right, 0, ALPHABET - 1)) {
                return REFUSED;
            }
            setBlockLetter(block, place, right);
            return REPAIRED;
        }

        private int mendNeighbours(int block, int b) {
            int places = lettersInBlock(block);
            int found = 0;
            int at = 0;
            for (int p = 1; p < places; p++) {
                int rise = blockLetter(block, p + 1) - blockLetter(block, p);
                boolean inOneGroup = p % GROUP_LETTERS != 0;
                if (inOneGroup && (rise == b || rise == b - SUM_MODULUS)) {
                    found++;
                    at = p;
                }
            }
            if (found != 1) {
                return REFUSED;
            }
            int left = blockLetter(block, at);
            setBlockLetter(block, at, blockLetter(block, at + 1));
            setBlockLetter(block, at + 1, left);
            return REPAIRED;
        }
    }

    /** Finds the best way to cover a message by parts, from its end to its beginning. */
    private static final class Condenser {
        // Of the tokens from place i on: the groups and parts of the best way, and its first part.
        private final int[] groups = new int[MOST_TOKENS + 1];
        private final int[] parts = new int[MOST_TOKENS + 1];
        private final int[] covers = new int[MOST_TOKENS + 1];
        private final int[] phrases = new int[MOST_TOKENS + 1];

        /** Weighs all ways: the groups of the best one. */
        int weigh(Message m, Book b) {
            int n = m.tokenCount;
            groups[n] = 0;
            parts[n] = 0;
            for (int i = n - 1; i >= 0; i--) {
                take(i, 1, NONE, groupsFor(m.tokens[i]));
                for (int p = 0; p < b.phraseCount; p++) {
                    if (b.standsAt(p, m.tokens, n, i) && isBetter(i, b.sizes[p])) {
                        take(i, b.sizes[p], p, 1);
                    }
                }
            }
            return groups[0];
        }

        private void take(int i, int cover, int phrase, int ownGroups) {
            groups[i] = ownGroups + groups[i + cover];
            parts[i] = 1 + parts[i + cover];
            covers[i] = cover;
            phrases[i] = phrase;
        }

        /** Whether a phrase that covers so many tokens from i on goes ahead of what was taken. */
        private boolean isBetter(int i, int cover) {
            int itsGroups = 1 + groups[i + cover];
            if (itsGroups != groups[i]) {
                return itsGroups < groups[i];
            }
            int itsParts = 1 + parts[i + cover];
            if (itsParts != parts[i]) {
                return itsParts < parts[i];
            }
            // A book has no phrase twice: of like cover only the spelled word can have been taken.
            return cover >= covers[i];
        }

        /** Writes the way that was weighed last as the form of its message. */
        void write(Message m, Book b, int bookNumber) {
            m.form.restart(bookNumber);
            int i = 0;
            for (int part = 0; part < MOST_TOKENS && i < m.tokenCount; part++) {
                int phrase = phrases[i];
                if (b.hasPhrase(phrase)) {
                    m.form.addPart(PHRASE_PART, covers[i], phrase);
                    m.form.addGroup(b.groups[phrase]);
                } else {
                    writeToken(m.form, m.tokens[i]);
                }
                i += covers[i];
            }
        }

        private static void writeToken(Form form, long token) {
            if (isNumber(token)) {
                form.addPart(NUMBER_PART, 1, NONE);
                form.addNumber(numberValue(token));
            } else {
                form.addPart(SPELLED_PART, 1, NONE);
                form.addSpelled(token);
            }
        }
    }

    /** Expands a form, group by group, and compares what it tells with the message. */
    private static final class Expander {
        private static final int OTHERS = 0;
        private static final int ALIKE = 1;
        private static final int FAILS = 2;

        private int at;
        private int told;
        private boolean alike;

        int compare(Message m, Book b) {
            at = 0;
            told = 0;
            alike = true;
            for (int i = 0; i < MOST_GROUPS && at < m.form.groupCount; i++) {
                if (!readNext(m, b)) {
                    return FAILS;
                }
            }
            return alike && told == m.tokenCount ? ALIKE : OTHERS;
        }

        private boolean readNext(Message m, Book b) {
            switch (m.form.letterAt(at, 0)) {
                case NUMBER_LEAD: return readShortNumber(m);
                case HIGH_LEAD: return readLongNumber(m);
                case SPELLED_LEAD: return readSpelled(m);
                default: return readPhrase(m, b);
            }
        }

        private void tell(Message m, long token) {
            if (told >= m.tokenCount || m.tokens[told] != token) {
                alike = false;
            } else {
                told++;
            }
        }

        private boolean readPhrase(Message m, Book b) {
            int phrase = b.phraseWithGroup(m.form.groupNumber(at));
            if (!b.hasPhrase(phrase)) {
                return false;
            }
            for (int i = 0; i < b.sizes[phrase]; i++) {
                tell(m, b.wordOf(phrase, i));
            }
            at++;
            return true;
        }

        private boolean readShortNumber(Message m) {
            int value = digitsOf(m.form, at);
            if (value == NONE) {
                return false;
            }
            tell(m, numberToken(value));
            at++;
            return true;
        }

        private boolean readLongNumber(Message m) {
            if (!m.form.hasGroup(at + 1) || m.form.letterAt(at + 1, 0) != NUMBER_LEAD) {
                return false;
            }
            long high = digitsOf(m.form, at);
            long low = digitsOf(m.form, at + 1);
            if (high <= 0 || low < 0) {
                return false;
            }
            long value = high * ONE_GROUP_NUMBERS + low;
            if (value > MOST_NUMBER) {
                return false;
            }
            tell(m, numberToken(value));
            at += 2;
            return true;
        }

        /** The value of the four digits of a group; NONE if one is not a digit. */
        private static int digitsOf(Form form, int k) {
            int value = 0;
            for (int place = 1; place < GROUP_LETTERS; place++) {
                int digit = form.letterAt(k, place);
                if (digit >= DIGIT_BASE) {
                    return NONE;
                }
                value = value * DIGIT_BASE + digit;
            }
            return value;
        }

        private boolean readSpelled(Message m) {
            int n = m.form.letterAt(at, 1);
            int last = at + n / 4;
            if (!within(n, 1, MOST_LETTERS) || !m.form.hasGroup(last)) {
                return false;
            }
            long word = 0;
            for (int g = 0; g <= n / 4; g++) {
                if (m.form.letterAt(at + g, 0) != SPELLED_LEAD || !isPadded(m.form, g, n)) {
                    return false;
                }
                word = withGroup(word, m.form, g, n);
            }
            tell(m, word);
            at = last + 1;
            return true;
        }

        /** Whether all letters of a spelled group that are behind the word's end are 0. */
        private boolean isPadded(Form form, int g, int n) {
            for (int place = 1; place < GROUP_LETTERS; place++) {
                if (Form.spelledIndex(g, place) >= n && form.letterAt(at + g, place) != 0) {
                    return false;
                }
            }
            return true;
        }

        private long withGroup(long word, Form form, int g, int n) {
            long longer = word;
            for (int place = 1; place < GROUP_LETTERS; place++) {
                if (within(Form.spelledIndex(g, place), 0, n - 1)) {
                    longer = withLetter(longer, form.letterAt(at + g, place));
                }
            }
            return longer;
        }
    }

    /** A line; way 0 of it goes from its first station, way 1 from the other one. */
    private static final class Line {
        static final int WAYS = 2;

        final int first;
        final int second;
        final int minutes;
        private final int opens;
        private final int shuts;
        // Of each way: how many wait for it, who runs on it, and when that run ends.
        final int[] waiting = new int[WAYS];
        final int[] runners = {NONE, NONE};
        final int[] endMinutes = new int[WAYS];
        int toLose;

        Line(int first, int second, int minutes, int opens, int shuts) {
            this.first = first;
            this.second = second;
            this.minutes = minutes;
            this.opens = opens;
            this.shuts = shuts;
        }

        boolean isOpen(int hour) {
            if (opens == shuts) {
                return true;
            }
            if (opens < shuts) {
                return hour >= opens && hour < shuts;
            }
            return hour >= opens || hour < shuts;
        }

        /** The station at the other end; NONE if the line does not touch this one. */
        int otherEnd(int station) {
            if (station == first) {
                return second;
            }
            return station == second ? first : NONE;
        }

        int wayFrom(int station) {
            return station == first ? 0 : 1;
        }

        int startOf(int way) {
            return way == 0 ? first : second;
        }
    }

    /** A row of stations, and the lines between them. */
    private static final class Route {
        final int[] stations = new int[MOST_STATIONS];
        final int[] lines = new int[MOST_STATIONS];
        int legs;

        void startAt(int station) {
            stations[0] = station;
            legs = 0;
        }

        void addLeg(int line, int station) {
            if (legs + 1 < MOST_STATIONS) {
                lines[legs] = line;
                legs++;
                stations[legs] = station;
            }
        }

        int stationAt(int i) {
            return within(i, 0, legs) ? stations[i] : NONE;
        }

        int lineAfter(int i) {
            return within(i, 0, legs - 1) ? lines[i] : NONE;
        }

        void copyFrom(Route other) {
            legs = other.legs;
            System.arraycopy(other.stations, 0, stations, 0, MOST_STATIONS);
            System.arraycopy(other.lines, 0, lines, 0, MOST_STATIONS);
        }
    }

    /** How a message is carried. */
    private static final class Journey {
        final Route route = new Route();
        int leg;
        int state = NOT_SENT;
        int place = NONE;
        int cameAt = NONE;
        int timesLost;
        boolean isDoomed;
        int priority;
        int order;
        // Its count when it was sent; it stays so, for what was sent is not condensed again.
        int sentCount;

        boolean waitsAt(int station) {
            return state == WAITS && place == station;
        }

        boolean goesAheadOf(Journey other) {
            if (priority != other.priority) {
                return priority > other.priority;
            }
            return order < other.order;
        }
    }

    /** The stations, the lines, the clock, and all journeys. */
    private static final class Net {
        // A leg costs its minutes times this and 1 more, so that of like minutes fewer lines win.
        private static final int MINUTE_COST = 16;
        private static final int NO_COST = 1000000;

        private static final int LEDGER_ROWS = 4;
        private static final int SENT_ROW = 0;
        private static final int COME_ROW = 1;
        private static final int COUNTS_ROW = 2;
        private static final int RUNS_ROW = 3;

        int stationCount;
        private final int[] ledgers = new int[MOST_STATIONS * LEDGER_ROWS];
        private final Line[] lines = new Line[MOST_LINES];
        int lineCount;
        private final Journey[] journeys = new Journey[MOST_MESSAGES];
        private int journeyCount;
        private final int[] costs = new int[MOST_STATIONS];
        final Route route = new Route();
        int minute;
        private int messagesSent;
        // Asking for a message again is a sending more, but no message more.
        private int sendings;

        int addStation() {
            if (stationCount >= MOST_STATIONS) {
                return FULL;
            }
            stationCount++;
            return stationCount - 1;
        }

        int addLine(int a, int b, int minutes, int opens, int shuts) {
            if (lineCount >= MOST_LINES) {
                return FULL;
            }
            lines[lineCount] = new Line(a, b, minutes, opens, shuts);
            lineCount++;
            return lineCount - 1;
        }

        void addJourney() {
            if (journeyCount < MOST_MESSAGES) {
                journeys[journeyCount] = new Journey();
                journeyCount++;
            }
        }

        boolean hasStation(int n) {
            return n >= 0 && n < stationCount;
        }

        int noted(int station, int row) {
            if (!hasStation(station)) {
                return UNKNOWN;
            }
            return within(row, 0, LEDGER_ROWS - 1) ? ledgers[station * LEDGER_ROWS + row] : OUTSIDE;
        }

        private void note(int station, int row, int more) {
            if (hasStation(station) && within(row, 0, LEDGER_ROWS - 1)) {
                ledgers[station * LEDGER_ROWS + row] += more;
            }
        }

        Line lineAt(int n) {
            return within(n, 0, lineCount - 1) ? lines[n] : null;
        }

        Journey journeyAt(int n) {
            return within(n, 0, journeyCount - 1) ? journeys[n] : null;
        }

        boolean wasSent(int message) {
            Journey j = journeyAt(message);
            return j != null && j.state != NOT_SENT;
        }

        int inState(int state) {
            int n = 0;
            for (int i = 0; i < journeyCount; i++) {
                Journey j = journeyAt(i);
                if (j != null && j.state == state) {
                    n++;
                }
            }
            return n;
        }

        int minutesBetween(int a, int b) {
            findCosts(b);
            int cost = costOf(a);
            return cost == NO_COST ? NONE : cost / MINUTE_COST;
        }

        /** Lays the path into the route; false if there is none. */
        boolean findRoute(int a, int b) {
            findCosts(b);
            route.startAt(a);
            int at = a;
            for (int leg = 0; leg < MOST_STATIONS && at != b; leg++) {
                int next = lineToward(at);
                Line line = lineAt(next);
                if (line == null) {
                    return false;
                }
                at = line.otherEnd(at);
                route.addLeg(next, at);
            }
            return at == b;
        }

        /** What it costs from each station to one; every round brings ways of one line more. */
        private void findCosts(int goal) {
            Arrays.fill(costs, NO_COST);
            if (!hasStation(goal)) {
                return;
            }
            costs[goal] = 0;
            boolean changed = true;
            for (int round = 0; round < MOST_STATIONS && changed; round++) {
                changed = false;
                for (int l = 0; l < lineCount; l++) {
                    Line line = lineAt(l);
                    if (line != null) {
                        boolean lowered = lowerCost(line, line.first, line.second);
                        boolean loweredBack = lowerCost(line, line.second, line.first);
                        changed = changed || lowered || loweredBack;
                    }
                }
            }
        }

        private boolean lowerCost(Line line, int from, int to) {
            if (costOf(to) == NO_COST || !hasStation(from)) {
                return false;
            }
            int cost = costOf(to) + legCost(line);
            if (cost >= costs[from]) {
                return false;
            }
            costs[from] = cost;
            return true;
        }

        private int costOf(int station) {
            return hasStation(station) ? costs[station] : NO_COST;
        }

        private static int legCost(Line line) {
            return line.minutes * MINUTE_COST + 1;
        }

        /**
         * The line on which the path goes on from a station: of those on a cheapest way the one to
         * the least station. Only the quickest between two are on one, and the lesser comes first.
         */
        private int lineToward(int station) {
            int found = NONE;
            int least = MOST_STATIONS;
            for (int l = 0; l < lineCount; l++) {
                Line line = lineAt(l);
                if (line != null && leadsOn(line, station) && line.otherEnd(station) < least) {
                    least = line.otherEnd(station);
                    found = l;
                }
            }
            return found;
        }

        private boolean leadsOn(Line line, int station) {
            int other = line.otherEnd(station);
            int rest = costOf(other);
            return rest != NO_COST && rest + legCost(line) == costOf(station);
        }

        /** Sends a message along the route that was found last: how many messages were sent till now. */
        int dispatch(int message, int priority, int sentCount) {
            Journey j = journeyAt(message);
            if (j != null) {
                j.priority = priority;
                j.sentCount = sentCount;
                messagesSent++;
                setOut(j);
            }
            return messagesSent;
        }

        private void setOut(Journey j) {
            sendings++;
            j.order = sendings;
            j.route.copyFrom(route);
            j.leg = 0;
            int start = j.route.stationAt(0);
            note(start, SENT_ROW, 1);
            note(start, COUNTS_ROW, j.sentCount);
            beginWait(j);
        }

        private void beginWait(Journey j) {
            j.state = WAITS;
            j.place = j.route.stationAt(j.leg);
            Line line = lineAt(j.route.lineAfter(j.leg));
            if (line != null) {
                line.waiting[line.wayFrom(j.place)]++;
            }
        }

        int askFor(int station) {
            int asked = 0;
            for (int i = 0; i < journeyCount; i++) {
                Journey j = journeyAt(i);
                if (j != null && j.state == LOST && j.route.stationAt(j.route.legs) == station
                        && findRoute(j.route.stationAt(0), station)) {
                    setOut(j);
                    asked++;
                }
            }
            return asked;
        }

        /** Lets one minute go by: how many messages have come in it. */
        int passMinute() {
            int come = 0;
            for (int l = 0; l < lineCount; l++) {
                Line line = lineAt(l);
                for (int way = 0; way < Line.WAYS && line != null; way++) {
                    come += endRun(line, way);
                }
            }
            int hour = minute / HOUR_MINUTES % DAY_HOURS;
            for (int l = 0; l < lineCount; l++) {
                Line line = lineAt(l);
                for (int way = 0; way < Line.WAYS && line != null && line.isOpen(hour); way++) {
                    beginRun(l, line, way);
                }
            }
            minute++;
            return come;
        }

        /** Ends the run on a way of a line, if its time is now: 1 if its message has come, else 0. */
        private int endRun(Line line, int way) {
            Journey j = journeyAt(line.runners[way]);
            if (j == null || line.endMinutes[way] != minute) {
                return 0;
            }
            line.runners[way] = NONE;
            if (j.isDoomed) {
                beLost(j);
                return 0;
            }
            j.leg++;
            if (j.leg < j.route.legs) {
                beginWait(j);
                return 0;
            }
            arrive(j);
            return 1;
        }

        /** Its place stays the line on which it ran. */
        private void beLost(Journey j) {
            j.isDoomed = false;
            j.state = LOST;
            j.timesLost++;
        }

        private void arrive(Journey j) {
            j.state = HAS_COME;
            j.place = j.route.stationAt(j.leg);
            j.cameAt = minute;
            note(j.place, COME_ROW, 1);
        }

        /** Begins a run on a way of an open line, if nobody runs on it and one waits for it. */
        private void beginRun(int lineNumber, Line line, int way) {
            if (line.waiting[way] == 0 || line.runners[way] != NONE) {
                return;
            }
            int start = line.startOf(way);
            int message = nextFor(lineNumber, start);
            Journey j = journeyAt(message);
            if (j == null) {
                return;
            }
            line.waiting[way]--;
            line.runners[way] = message;
            line.endMinutes[way] = minute + line.minutes;
            if (line.toLose > 0) {
                line.toLose--;
                j.isDoomed = true;
            }
            j.state = RUNS;
            j.place = lineNumber;
            note(start, RUNS_ROW, 1);
        }

        /** Of the messages that wait at a station for a line the one that goes ahead of all. */
        private int nextFor(int lineNumber, int station) {
            int found = NONE;
            for (int i = 0; i < journeyCount; i++) {
                Journey j = journeyAt(i);
                if (j != null && j.waitsAt(station) && j.route.lineAfter(j.leg) == lineNumber
                        && goesAhead(j, found)) {
                    found = i;
                }
            }
            return found;
        }

        private boolean goesAhead(Journey j, int other) {
            Journey o = journeyAt(other);
            return o == null || j.goesAheadOf(o);
        }

        /** Message k of the queue at a station: the one that has k ahead of it; NONE. */
        int waitingAt(int station, int k) {
            for (int i = 0; i < journeyCount; i++) {
                Journey j = journeyAt(i);
                if (j != null && j.waitsAt(station) && aheadOf(j, station) == k) {
                    return i;
                }
            }
            return NONE;
        }

        private int aheadOf(Journey j, int station) {
            int ahead = 0;
            for (int i = 0; i < journeyCount; i++) {
                Journey other = journeyAt(i);
                if (other != null && other.waitsAt(station) && other.goesAheadOf(j)) {
                    ahead++;
                }
            }
            return ahead;
        }
    }
}
