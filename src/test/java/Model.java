import java.util.ArrayList;
import java.util.Arrays;
import java.util.HashMap;
import java.util.List;
import java.util.Map;

/**
 * The document once more, as plainly as it can be said: texts, lists, and all ways tried out.
 * It shares no code with TelegraphHouse and is only as quick as the tests need.
 */
final class Model {
    static final int UNKNOWN = -1, OUTSIDE = -2, STATE = -3, FULL = -4, NONE = -9;

    static final class Bk {
        int start;
        int step;
        boolean closed;
        List<List<String>> phrases = new ArrayList<>();
    }

    static final class Part {
        int sort;
        int cover;
        int phrase;
        List<int[]> groups = new ArrayList<>();
    }

    static final class Msg {
        List<String> tokens;
        List<int[]> form;
        List<Part> parts = new ArrayList<>();
        int book = NONE;
        List<int[]> sums = new ArrayList<>();
        List<Integer> found = new ArrayList<>();
        int state;
        int place = NONE;
        int came = NONE;
        int lost;
        int a;
        int b;
        int priority;
        int order;
        int[] path;
        int leg;
        int way;
        int ends;
        boolean doomed;
    }

    static final class Ln {
        int[] ends;
        int minutes;
        int from;
        int to;
        int lose;
    }

    private static int[] sound;

    private final StringBuilder tape = new StringBuilder();
    private final List<Bk> books = new ArrayList<>();
    private final List<Msg> messages = new ArrayList<>();
    private final List<int[]> stations = new ArrayList<>();
    private final List<Ln> lines = new ArrayList<>();
    private int clock;
    private int launches;

    Model() {
        if (sound == null) {
            sound = makeSound();
        }
    }

    private static int[] makeSound() {
        int[] weights = {1, 3, 7, 15, 5};
        int[] all = new int[10000];
        int n = 0;
        for (int g = 0; n < all.length; g++) {
            int[] l = letters(g);
            int total = 0;
            boolean ok = l[0] <= 22;
            for (int i = 0; i < 5; i++) {
                total += weights[i] * l[i];
                ok = ok && (i == 0 || l[i] - l[i - 1] != 13 && l[i - 1] - l[i] != 13);
            }
            if (ok && total % 26 == 0) {
                all[n++] = g;
            }
        }
        return all;
    }

    private static int[] letters(int group) {
        return new int[] {group / 456976, group / 17576 % 26, group / 676 % 26, group / 26 % 26, group % 26};
    }

    private static int number(int[] l) {
        int v = 0;
        for (int x : l) {
            v = v * 26 + x;
        }
        return v;
    }

    private Bk bk(int n) {
        return n >= 0 && n < books.size() ? books.get(n) : null;
    }

    private Msg msg(int n) {
        return n >= 0 && n < messages.size() ? messages.get(n) : null;
    }

    private boolean st(int n) {
        return n >= 0 && n < stations.size();
    }

    int feed(long w) {
        StringBuilder more = new StringBuilder();
        for (int i = 0; i < 8 && (w >> 8 * i & 255) != 0; i++) {
            more.append((char) (w >> 8 * i & 255));
        }
        if (tape.length() + more.length() > 300) {
            return FULL;
        }
        return tape.append(more).length();
    }

    int cut(int n) {
        if (n < 0 || n > tape.length()) {
            return OUTSIDE;
        }
        int gone = tape.length() - n;
        tape.setLength(n);
        return gone;
    }

    /** The fault: the length of the longest beginning that some right tape begins with. */
    private int fault() {
        for (int n = 1; n <= tape.length(); n++) {
            if (!mayBegin(tape.substring(0, n))) {
                return n - 1;
            }
        }
        return tokens().isEmpty() ? tape.length() : -1;
    }

    private static boolean mayBegin(String text) {
        if (!text.matches("[a-z0-9 ]*")) {
            return false;
        }
        int n = 0;
        for (String t : text.split(" +")) {
            if (!t.isEmpty()) {
                n++;
                if (!t.matches("[a-z]{1,12}|0|[1-9][0-9]{0,8}")) {
                    return false;
                }
            }
        }
        return n <= 20;
    }

    private List<String> tokens() {
        List<String> found = new ArrayList<>();
        for (String t : tape.toString().split(" +")) {
            if (!t.isEmpty()) {
                found.add(t);
            }
        }
        return found;
    }

    int message() {
        if (messages.size() == 30) {
            return FULL;
        }
        if (fault() >= 0) {
            return -100 - fault();
        }
        Msg m = new Msg();
        m.tokens = tokens();
        tape.setLength(0);
        messages.add(m);
        return messages.size() - 1;
    }

    int book(int start, int step) {
        if (start < 0 || start > 5000 || step < 1 || step > 9) {
            return OUTSIDE;
        }
        if (books.size() == 3) {
            return FULL;
        }
        Bk b = new Bk();
        b.start = start;
        b.step = step;
        books.add(b);
        return books.size() - 1;
    }

    int phrase(int book) {
        Bk b = bk(book);
        if (b == null) {
            return UNKNOWN;
        }
        if (fault() >= 0) {
            return -100 - fault();
        }
        List<String> words = tokens();
        if (words.size() > 4 || words.stream().anyMatch(w -> Character.isDigit(w.charAt(0)))) {
            return OUTSIDE;
        }
        if (b.closed || b.phrases.contains(words)) {
            return STATE;
        }
        if (b.phrases.size() == 30) {
            return FULL;
        }
        b.phrases.add(words);
        tape.setLength(0);
        return b.phrases.size();
    }

    int close(int book) {
        Bk b = bk(book);
        if (b == null) {
            return UNKNOWN;
        }
        if (b.closed) {
            return STATE;
        }
        b.closed = true;
        return b.phrases.size();
    }

    int groupOf(int book, int k) {
        Bk b = bk(book);
        if (b == null || k < 0 || k >= b.phrases.size()) {
            return UNKNOWN;
        }
        return b.closed ? sound[b.start + k * b.step] : STATE;
    }

    int sound(int n) {
        return n < 0 || n > 9999 ? OUTSIDE : sound[n];
    }

    int distance(int book) {
        Bk b = bk(book);
        if (b == null) {
            return UNKNOWN;
        }
        if (!b.closed) {
            return STATE;
        }
        int least = 9;
        for (int i = 0; i < b.phrases.size(); i++) {
            for (int j = 0; j < i; j++) {
                int[] p = letters(groupOf(book, i));
                int[] q = letters(groupOf(book, j));
                int unlike = 0;
                for (int k = 0; k < 5; k++) {
                    unlike += p[k] == q[k] ? 0 : 1;
                }
                least = Math.min(least, unlike);
            }
        }
        return least == 9 ? NONE : least;
    }

    private static int countOf(Msg m) {
        if (m.form != null) {
            return m.form.size();
        }
        int n = 0;
        for (String t : m.tokens) {
            int unit = Character.isDigit(t.charAt(0)) ? 5 : 10;
            n += t.length() / unit + (t.length() % unit == 0 ? 0 : 1);
        }
        return n;
    }

    int about(int message, int what) {
        Msg m = msg(message);
        if (m == null) {
            return UNKNOWN;
        }
        if (what < 0 || what > 5) {
            return OUTSIDE;
        }
        int groups = m.form == null ? 0 : m.form.size();
        return new int[] {m.tokens.size(), countOf(m), groups, m.book, m.parts.size(), m.sums.size()}[what];
    }

    private static List<int[]> numberGroups(long v) {
        List<int[]> groups = new ArrayList<>();
        if (v >= 331776) {
            groups.add(digits(24, v / 331776));
        }
        groups.add(digits(25, v % 331776));
        return groups;
    }

    private static int[] digits(int lead, long v) {
        String s = "0000" + Long.toString(v, 24);
        int[] l = {lead, 0, 0, 0, 0};
        for (int i = 0; i < 4; i++) {
            l[i + 1] = Character.digit(s.charAt(s.length() - 4 + i), 24);
        }
        return l;
    }

    private static List<int[]> wordGroups(String word) {
        List<int[]> groups = new ArrayList<>();
        String padded = word + "aaaaaaaa";
        groups.add(new int[] {23, word.length(), padded.charAt(0) - 97, padded.charAt(1) - 97, padded.charAt(2) - 97});
        for (int k = 1; k <= word.length() / 4; k++) {
            int[] l = {23, 0, 0, 0, 0};
            for (int i = 0; i < 4; i++) {
                l[i + 1] = padded.charAt(4 * k - 1 + i) - 97;
            }
            groups.add(l);
        }
        return groups;
    }

    /** All ways to cover the tokens from i on, the best one; whole ways are compared, not parts. */
    private List<Part> bestWay(Msg m, int book, int i, Map<Integer, List<Part>> known) {
        if (i == m.tokens.size()) {
            return new ArrayList<>();
        }
        if (known.containsKey(i)) {
            return known.get(i);
        }
        List<List<Part>> ways = new ArrayList<>();
        Part own = new Part();
        String t = m.tokens.get(i);
        boolean digit = Character.isDigit(t.charAt(0));
        own.sort = digit ? 2 : 1;
        own.cover = 1;
        own.phrase = NONE;
        own.groups = digit ? numberGroups(Long.parseLong(t)) : wordGroups(t);
        ways.add(way(own, bestWay(m, book, i + 1, known)));
        List<List<String>> phrases = books.get(book).phrases;
        for (int p = 0; p < phrases.size(); p++) {
            int end = i + phrases.get(p).size();
            if (end <= m.tokens.size() && m.tokens.subList(i, end).equals(phrases.get(p))) {
                Part part = new Part();
                part.cover = end - i;
                part.phrase = p;
                part.groups.add(letters(groupOf(book, p)));
                ways.add(way(part, bestWay(m, book, end, known)));
            }
        }
        List<Part> best = ways.get(0);
        for (List<Part> w : ways) {
            best = goesAhead(w, best) ? w : best;
        }
        known.put(i, best);
        return best;
    }

    private static List<Part> way(Part first, List<Part> rest) {
        List<Part> w = new ArrayList<>(rest);
        w.add(0, first);
        return w;
    }

    private static boolean goesAhead(List<Part> v, List<Part> w) {
        int gv = v.stream().mapToInt(p -> p.groups.size()).sum();
        int gw = w.stream().mapToInt(p -> p.groups.size()).sum();
        if (gv != gw) {
            return gv < gw;
        }
        if (v.size() != w.size()) {
            return v.size() < w.size();
        }
        for (int i = 0; i < v.size(); i++) {
            if (v.get(i).cover != w.get(i).cover) {
                return v.get(i).cover > w.get(i).cover;
            }
            if (v.get(i).sort != w.get(i).sort) {
                return v.get(i).sort == 0;
            }
        }
        return false;
    }

    int condense(int message, int book) {
        Msg m = msg(message);
        Bk b = bk(book);
        if (m == null || b == null) {
            return UNKNOWN;
        }
        if (!b.closed || m.state != 0) {
            return STATE;
        }
        m.parts = bestWay(m, book, 0, new HashMap<>());
        m.form = new ArrayList<>();
        m.parts.forEach(p -> p.groups.forEach(g -> m.form.add(g.clone())));
        m.book = book;
        m.sums.clear();
        m.found.clear();
        return m.form.size();
    }

    int part(int message, int i, int what) {
        Msg m = msg(message);
        if (m == null || i < 0 || i >= m.parts.size()) {
            return UNKNOWN;
        }
        Part p = m.parts.get(i);
        return what == 0 ? p.sort : what == 1 ? p.cover : what == 2 ? p.phrase : OUTSIDE;
    }

    private static int[] grp(Msg m, int k) {
        return m == null || m.form == null || k < 0 || k >= m.form.size() ? null : m.form.get(k);
    }

    int group(int message, int k) {
        int[] g = grp(msg(message), k);
        return g == null ? UNKNOWN : number(g);
    }

    int expands(int message) {
        Msg m = msg(message);
        if (m == null) {
            return UNKNOWN;
        }
        if (m.form == null) {
            return STATE;
        }
        List<String> told = new ArrayList<>();
        int at = 0;
        while (at < m.form.size()) {
            int used = expandAt(m, at, told);
            if (used == 0) {
                return 2;
            }
            at += used;
        }
        return told.equals(m.tokens) ? 1 : 0;
    }

    /** Guesses a token from the groups, makes its groups anew, and looks whether they are the same. */
    private int expandAt(Msg m, int at, List<String> told) {
        int[] g = m.form.get(at);
        for (int p = 0; p < books.get(m.book).phrases.size(); p++) {
            if (groupOf(m.book, p) == number(g)) {
                told.addAll(books.get(m.book).phrases.get(p));
                return 1;
            }
        }
        List<int[]> made = new ArrayList<>();
        String token = "";
        if (g[0] == 25 || g[0] == 24 && at + 1 < m.form.size()) {
            long v = value(g);
            if (g[0] == 24) {
                v = v * 331776 + value(m.form.get(at + 1));
            }
            if (v > 999999999) {
                return 0;
            }
            token = Long.toString(v);
            made = numberGroups(v);
        } else if (g[0] == 23 && g[1] >= 1 && g[1] <= 12) {
            StringBuilder all = new StringBuilder();
            for (int k = at; k < m.form.size() && k < at + 4; k++) {
                for (int i = k == at ? 2 : 1; i < 5; i++) {
                    all.append((char) (97 + m.form.get(k)[i]));
                }
            }
            if (all.length() < g[1]) {
                return 0;
            }
            token = all.substring(0, g[1]);
            made = wordGroups(token);
        }
        if (at + made.size() > m.form.size()) {
            return 0;
        }
        for (int k = 0; k < made.size(); k++) {
            if (!Arrays.equals(made.get(k), m.form.get(at + k))) {
                return 0;
            }
        }
        told.add(token);
        return made.size();
    }

    private static long value(int[] g) {
        return ((g[1] * 24L + g[2]) * 24 + g[3]) * 24 + g[4];
    }

    int best(int message) {
        Msg m = msg(message);
        if (m == null) {
            return UNKNOWN;
        }
        int found = NONE;
        int least = 1000;
        for (int b = 0; b < books.size(); b++) {
            if (books.get(b).closed) {
                int n = bestWay(m, b, 0, new HashMap<>()).stream().mapToInt(p -> p.groups.size()).sum();
                if (n < least) {
                    least = n;
                    found = b;
                }
            }
        }
        return found;
    }

    /** The letters of a block, with a row of its own: place p is at p - 1. */
    private static int[] block(Msg m, int block) {
        List<int[]> groups = m.form.subList(8 * block, Math.min(m.form.size(), 8 * block + 8));
        return groups.stream().flatMapToInt(Arrays::stream).toArray();
    }

    private static void setBlock(Msg m, int block, int[] l) {
        for (int i = 0; i < l.length; i++) {
            m.form.get(8 * block + i / 5)[i % 5] = l[i];
        }
    }

    private static int[] sums(int[] l) {
        int a = 0;
        int b = 0;
        for (int i = 0; i < l.length; i++) {
            a += l[i];
            b += (i + 1) * l[i];
        }
        return new int[] {a % 101, b % 101};
    }

    int guard(int message) {
        Msg m = msg(message);
        if (m == null) {
            return UNKNOWN;
        }
        if (m.form == null) {
            return STATE;
        }
        m.sums.clear();
        m.found.clear();
        for (int k = 0; 8 * k < m.form.size(); k++) {
            m.sums.add(sums(block(m, k)));
            m.found.add(NONE);
        }
        return m.sums.size();
    }

    int sum(int message, int block, int what) {
        Msg m = msg(message);
        if (m == null || block < 0 || block >= m.sums.size()) {
            return UNKNOWN;
        }
        return what < 0 || what > 1 ? OUTSIDE : m.sums.get(block)[what];
    }

    int hurt(int message, int k, int place, int letter) {
        int[] g = grp(msg(message), k);
        if (g == null) {
            return UNKNOWN;
        }
        if (place < 0 || place > 4 || letter < 0 || letter > 25) {
            return OUTSIDE;
        }
        int was = g[place];
        g[place] = letter;
        return was;
    }

    int swap(int message, int k, int place) {
        int[] g = grp(msg(message), k);
        if (g == null) {
            return UNKNOWN;
        }
        if (place < 0 || place > 3) {
            return OUTSIDE;
        }
        int was = g[place];
        g[place] = g[place + 1];
        g[place + 1] = was;
        return g[place] == was ? 0 : 1;
    }

    int mend(int message) {
        Msg m = msg(message);
        if (m == null) {
            return UNKNOWN;
        }
        if (m.sums.isEmpty()) {
            return STATE;
        }
        for (int k = 0; k < m.sums.size(); k++) {
            int[] l = block(m, k);
            m.found.set(k, mendBlock(l, m.sums.get(k)));
            setBlock(m, k, l);
        }
        return m.found.contains(2) ? 2 : m.found.contains(1) ? 1 : 0;
    }

    /** Tries out every repair of the sort that is asked for, and keeps it if the sums are right then. */
    private static int mendBlock(int[] l, int[] want) {
        int[] now = sums(l);
        if (Arrays.equals(now, want)) {
            return 0;
        }
        List<int[]> repairs = new ArrayList<>();
        for (int p = 0; p < l.length; p++) {
            if (now[0] != want[0]) {
                for (int letter = 0; letter < 26; letter++) {
                    int[] other = l.clone();
                    other[p] = letter;
                    if (Arrays.equals(sums(other), want)) {
                        repairs.add(other);
                    }
                }
            } else if (p % 5 < 4) {
                int[] other = l.clone();
                other[p] = l[p + 1];
                other[p + 1] = l[p];
                if (Arrays.equals(sums(other), want)) {
                    repairs.add(other);
                }
            }
        }
        if (repairs.size() != 1) {
            return 2;
        }
        System.arraycopy(repairs.get(0), 0, l, 0, l.length);
        return 1;
    }

    int mended(int message, int block) {
        Msg m = msg(message);
        return m == null || block < 0 || block >= m.sums.size() ? UNKNOWN : m.found.get(block);
    }

    int charge(int message, int zone, boolean urgent, boolean night, boolean reply) {
        Msg m = msg(message);
        if (m == null) {
            return UNKNOWN;
        }
        if (zone < 0 || zone > 3) {
            return OUTSIDE;
        }
        if (urgent && night) {
            return STATE;
        }
        int cents = new int[] {3, 5, 9, 14}[zone];
        int total = cents * Math.max(5, countOf(m)) * (urgent ? 3 : 1);
        total = night ? total - total / 2 : total;
        return total + (reply ? 10 * cents : 0);
    }

    int station() {
        if (stations.size() == 8) {
            return FULL;
        }
        stations.add(new int[4]);
        return stations.size() - 1;
    }

    int line(int a, int b, int minutes, int from, int to) {
        if (!st(a) || !st(b)) {
            return UNKNOWN;
        }
        if (minutes < 1 || minutes > 60 || from < 0 || from > 23 || to < 0 || to > 23) {
            return OUTSIDE;
        }
        if (a == b) {
            return STATE;
        }
        if (lines.size() == 12) {
            return FULL;
        }
        Ln l = new Ln();
        l.ends = new int[] {a, b};
        l.minutes = minutes;
        l.from = from;
        l.to = to;
        lines.add(l);
        return lines.size() - 1;
    }

    /** The line between two neighbours of a path. */
    private int lineBetween(int a, int b) {
        int found = -1;
        for (int i = 0; i < lines.size(); i++) {
            int[] e = lines.get(i).ends;
            boolean joins = e[0] == a && e[1] == b || e[0] == b && e[1] == a;
            if (joins && (found < 0 || lines.get(i).minutes < lines.get(found).minutes)) {
                found = i;
            }
        }
        return found;
    }

    private int minutesOf(int[] path) {
        int total = 0;
        for (int i = 1; i < path.length; i++) {
            total += lines.get(lineBetween(path[i - 1], path[i])).minutes;
        }
        return total;
    }

    private int[] best;

    /** All rows of stations without one twice, tried out. */
    private int[] thePath(int a, int b) {
        best = null;
        tryPaths(new int[] {a}, b);
        return best;
    }

    private void tryPaths(int[] path, int goal) {
        int at = path[path.length - 1];
        if (at == goal) {
            if (best == null || shorter(path, best)) {
                best = path;
            }
            return;
        }
        for (int s = 0; s < stations.size(); s++) {
            boolean been = false;
            for (int p : path) {
                been |= p == s;
            }
            if (!been && lineBetween(at, s) >= 0) {
                int[] longer = Arrays.copyOf(path, path.length + 1);
                longer[path.length] = s;
                tryPaths(longer, goal);
            }
        }
    }

    private boolean shorter(int[] p, int[] q) {
        if (minutesOf(p) != minutesOf(q)) {
            return minutesOf(p) < minutesOf(q);
        }
        return p.length != q.length ? p.length < q.length : Arrays.compare(p, q) < 0;
    }

    int path(int a, int b, int i) {
        if (!st(a) || !st(b)) {
            return UNKNOWN;
        }
        int[] p = thePath(a, b);
        return p == null || i < 0 || i >= p.length ? NONE : p[i];
    }

    int far(int a, int b) {
        if (!st(a) || !st(b)) {
            return UNKNOWN;
        }
        int[] p = thePath(a, b);
        return p == null ? NONE : minutesOf(p);
    }

    int send(int message, int a, int b, int priority) {
        Msg m = msg(message);
        if (m == null || !st(a) || !st(b)) {
            return UNKNOWN;
        }
        if (priority < 0 || priority > 2) {
            return OUTSIDE;
        }
        if (m.state != 0 || a == b || thePath(a, b) == null) {
            return STATE;
        }
        m.a = a;
        m.b = b;
        m.priority = priority;
        launch(m);
        int sent = 0;
        for (Msg other : messages) {
            sent += other.state == 0 ? 0 : 1;
        }
        return sent;
    }

    /** The path is kept as the lines and ways that it goes: two numbers a leg. */
    private void launch(Msg m) {
        int[] p = thePath(m.a, m.b);
        m.path = new int[2 * p.length - 2];
        for (int i = 1; i < p.length; i++) {
            m.path[2 * i - 2] = lineBetween(p[i - 1], p[i]);
            m.path[2 * i - 1] = lines.get(m.path[2 * i - 2]).ends[0] == p[i - 1] ? 0 : 1;
        }
        m.leg = 0;
        m.state = 1;
        m.place = m.a;
        m.order = ++launches;
        stations.get(m.a)[0]++;
        stations.get(m.a)[2] += countOf(m);
    }

    int step(int n) {
        if (n < 1 || n > 300) {
            return OUTSIDE;
        }
        if (clock + n > 6000) {
            return FULL;
        }
        int come = 0;
        for (int i = 0; i < n; i++) {
            come += minute();
        }
        return come;
    }

    private int minute() {
        int come = 0;
        for (Msg m : messages) {
            if (m.state == 2 && m.ends == clock) {
                int end = lines.get(m.place).ends[1 - m.way];
                if (m.doomed) {
                    m.state = 4;
                    m.lost++;
                } else {
                    m.leg += 2;
                    m.place = end;
                    m.state = m.leg == m.path.length ? 3 : 1;
                    if (m.state == 3) {
                        come++;
                        m.came = clock;
                        stations.get(end)[1]++;
                    }
                }
            }
        }
        int hour = clock / 60 % 24;
        for (int l = 0; l < lines.size(); l++) {
            Ln line = lines.get(l);
            boolean open = line.from == line.to;
            for (int h = line.from; h != line.to; h = (h + 1) % 24) {
                open |= h == hour;
            }
            for (int way = 0; way < 2 && open; way++) {
                begin(l, line, way);
            }
        }
        clock++;
        return come;
    }

    private void begin(int l, Ln line, int way) {
        Msg next = null;
        for (Msg m : messages) {
            if (m.state == 2 && m.place == l && m.way == way) {
                return;
            }
            if (m.state == 1 && m.path[m.leg] == l && m.path[m.leg + 1] == way
                    && (next == null || rank(m) < rank(next))) {
                next = m;
            }
        }
        if (next != null) {
            stations.get(next.place)[3]++;
            next.state = 2;
            next.place = l;
            next.way = way;
            next.ends = clock + line.minutes;
            next.doomed = line.lose > 0;
            line.lose -= next.doomed ? 1 : 0;
        }
    }

    private static int rank(Msg m) {
        return (2 - m.priority) * 100000 + m.order;
    }

    int clock() {
        return clock;
    }

    int where(int message, int what) {
        Msg m = msg(message);
        if (m == null) {
            return UNKNOWN;
        }
        return what < 0 || what > 3 ? OUTSIDE : new int[] {m.state, m.place, m.came, m.lost}[what];
    }

    int queue(int station, int k) {
        if (!st(station)) {
            return UNKNOWN;
        }
        List<Msg> row = new ArrayList<>();
        for (Msg m : messages) {
            if (m.state == 1 && m.place == station) {
                row.add(m);
            }
        }
        row.sort((p, q) -> rank(p) - rank(q));
        return k < 0 || k >= row.size() ? NONE : messages.indexOf(row.get(k));
    }

    int lose(int line) {
        return line < 0 || line >= lines.size() ? UNKNOWN : ++lines.get(line).lose;
    }

    int ask(int station) {
        if (!st(station)) {
            return UNKNOWN;
        }
        int n = 0;
        for (Msg m : messages) {
            if (m.state == 4 && m.b == station) {
                launch(m);
                n++;
            }
        }
        return n;
    }

    int ledger(int station, int what) {
        if (!st(station)) {
            return UNKNOWN;
        }
        return what < 0 || what > 3 ? OUTSIDE : stations.get(station)[what];
    }

    int count(int what) {
        if (what < 0 || what > 8) {
            return OUTSIDE;
        }
        if (what >= 5) {
            return (int) messages.stream().filter(m -> m.state == what - 4).count();
        }
        return new int[] {books.size(), messages.size(), stations.size(), lines.size(), tape.length()}[what];
    }
}
