import java.lang.reflect.Field;
import java.lang.reflect.Method;
import java.lang.reflect.Modifier;
import java.nio.file.Files;
import java.nio.file.Path;
import java.util.ArrayList;
import java.util.Arrays;
import java.util.List;
import java.util.TreeSet;
import java.util.regex.Matcher;
import java.util.regex.Pattern;

/** The public face of the document, and the rules of LANGUAGE.md that a search can look at. */
public final class FaceTest {
    private static final Path SOURCE = Path.of("src/main/java/TelegraphHouse.java");

    private static final String[] FACE = {
        "feed(long)", "cut(int)", "message()", "book(int,int)", "phrase(int)", "close(int)",
        "groupOf(int,int)", "sound(int)", "distance(int)", "about(int,int)", "condense(int,int)",
        "part(int,int,int)", "group(int,int)", "expands(int)", "best(int)", "guard(int)",
        "sum(int,int,int)", "hurt(int,int,int,int)", "swap(int,int,int)", "mend(int)",
        "mended(int,int)", "charge(int,int,boolean,boolean,boolean)", "station()",
        "line(int,int,int,int,int)", "path(int,int,int)", "far(int,int)", "send(int,int,int,int)",
        "step(int)", "clock()", "where(int,int)", "queue(int,int)", "lose(int)", "ask(int)",
        "ledger(int,int)", "count(int)",
    };

    /** The calls as the document tells them, each row behind what the interface says ahead of it. */
    private static final String[][] SECTIONS = {
        {"the tape", "feed(long w)", "cut(int n)", "message()"},
        {"books", "book(int start, int step)", "phrase(int book)", "close(int book)",
            "groupOf(int book, int k)", "sound(int n)", "distance(int book)"},
        {"messages", "about(int message, int what)", "condense(int message, int book)",
            "part(int message, int i, int what)", "group(int message, int k)", "expands(int message)",
            "best(int message)"},
        {"sums", "guard(int message)", "sum(int message, int block, int what)",
            "hurt(int message, int k, int place, int letter)", "swap(int message, int k, int place)",
            "mend(int message)", "mended(int message, int block)"},
        {"charges", "charge(int message, int zone, boolean urgent, boolean night, boolean reply)"},
        {"the net", "station()", "line(int a, int b, int minutes, int from, int to)",
            "path(int a, int b, int i)", "far(int a, int b)",
            "send(int message, int a, int b, int priority)", "step(int n)", "clock()",
            "where(int message, int what)", "queue(int station, int k)", "lose(int line)",
            "ask(int station)", "ledger(int station, int what)", "count(int what)"},
    };

    private static final String[] BANNED = {
        "throw", "throws", "try", "catch", "synchronized", "assert", "->", "::", "Exact",
        "hashCode", "System\\.(?!arraycopy)", "Random", "Thread", "protected", "package",
    };

    public static void main(String[] args) throws Exception {
        constants();
        methods();
        sections();
        fields();
        words();
        classes();
        methodLengths();
        Due.end();
    }

    private static void constants() throws Exception {
        String[] names = {"UNKNOWN", "OUTSIDE", "STATE", "FULL", "NONE"};
        int[] values = {-1, -2, -3, -4, -9};
        for (int i = 0; i < names.length; i++) {
            Field f = TelegraphHouse.class.getField(names[i]);
            Due.due(names[i], f.getInt(null), values[i]);
            Due.due(names[i] + " is final", Modifier.isFinal(f.getModifiers()));
        }
        Due.due("public fields", TelegraphHouse.class.getFields().length, names.length);
        Due.due("final class", Modifier.isFinal(TelegraphHouse.class.getModifiers()));
        Due.due("constructors", TelegraphHouse.class.getDeclaredConstructors().length, 1);
        Due.due("it is public", Modifier.isPublic(
                TelegraphHouse.class.getDeclaredConstructors()[0].getModifiers()));
    }

    private static void methods() {
        TreeSet<String> found = new TreeSet<>();
        TreeSet<String> names = new TreeSet<>();
        for (Method m : TelegraphHouse.class.getDeclaredMethods()) {
            if (Modifier.isPublic(m.getModifiers())) {
                found.add(signature(m));
                names.add(m.getName());
                Due.due(m.getName() + " answers an int", m.getReturnType() == int.class);
            }
        }
        Due.due("the face " + found, found.equals(new TreeSet<>(Arrays.asList(FACE))));
        for (Class<?> c : allClasses()) {
            for (Method m : c.getDeclaredMethods()) {
                boolean own = c == TelegraphHouse.class && Modifier.isPublic(m.getModifiers());
                Due.due(c.getName() + "." + m.getName(), own || !names.contains(m.getName()));
                Due.due(m.getName() + " parameters", m.getParameterCount() <= 7);
                Due.due(m.getName() + " is seen", c != TelegraphHouse.class || own
                        || Modifier.isPrivate(m.getModifiers()));
            }
        }
    }

    private static void sections() throws Exception {
        Due.sentence("Ahead of the calls .. the interface says: ---- ..");
        List<String> due = new ArrayList<>();
        for (String[] section : SECTIONS) {
            due.add("---- " + section[0]);
            due.addAll(Arrays.asList(section).subList(1, section.length));
        }
        List<String> found = new ArrayList<>();
        Matcher m = Pattern.compile("(?m)^    (?:// (---- .*)|public int (\\w+\\(.*\\)) \\{)$")
                .matcher(Files.readString(SOURCE));
        while (m.find()) {
            found.add(m.group(1) != null ? m.group(1) : m.group(2));
        }
        Due.due("the calls in their order " + found, found.equals(due));
        Due.sentence("");
    }

    private static String signature(Method m) {
        List<String> types = new ArrayList<>();
        for (Class<?> c : m.getParameterTypes()) {
            types.add(c.getName());
        }
        return m.getName() + "(" + String.join(",", types) + ")";
    }

    private static List<Class<?>> allClasses() {
        List<Class<?>> all = new ArrayList<>();
        all.add(TelegraphHouse.class);
        all.addAll(Arrays.asList(TelegraphHouse.class.getDeclaredClasses()));
        return all;
    }

    private static void fields() {
        for (Class<?> c : allClasses()) {
            int own = 0;
            for (Field f : c.getDeclaredFields()) {
                int mods = f.getModifiers();
                own += Modifier.isStatic(mods) ? 0 : 1;
                Due.due(f + " static, so final", !Modifier.isStatic(mods) || Modifier.isFinal(mods));
                Due.due(f + " is seen", c != TelegraphHouse.class || Modifier.isPrivate(mods)
                        || Modifier.isPublic(mods) && Modifier.isStatic(mods));
                Due.due(f + " booleans", f.getType() != boolean[].class);
            }
            Due.due(c.getName() + " has " + own + " fields", own <= 20);
        }
    }

    private static void classes() {
        Due.due("classes", allClasses().size() <= 12);
        for (Class<?> c : TelegraphHouse.class.getDeclaredClasses()) {
            Due.due(c.getName() + " is static", Modifier.isStatic(c.getModifiers()));
            Due.due(c.getName() + " is private", Modifier.isPrivate(c.getModifiers()));
        }
    }

    /** The source without its comments. */
    private static String code() throws Exception {
        String text = Files.readString(SOURCE);
        return text.replaceAll("(?s)/\\*.*?\\*/", "").replaceAll("//[^\n]*", "");
    }

    private static void words() throws Exception {
        String code = code();
        for (String word : BANNED) {
            boolean letters = Character.isLetter(word.charAt(0)) && !word.startsWith("Exact");
            Matcher m = Pattern.compile(letters ? "\\b" + word : word).matcher(code);
            boolean found = m.find();
            Due.due("no '" + word + "'", !found);
        }
        Matcher imports = Pattern.compile("import ([\\w.]+);").matcher(code);
        while (imports.find()) {
            Due.due(imports.group(1), imports.group(1).equals("java.util.Arrays"));
        }
    }

    private static void methodLengths() throws Exception {
        String name = "";
        int from = 0;
        String[] rows = code().split("\n");
        for (int i = 0; i < rows.length; i++) {
            if (rows[i].matches("    (    )?\\w.*\\) \\{")) {
                name = rows[i].trim();
                from = i;
            }
            if (rows[i].matches("    (    )?\\}")) {
                Due.due(name + " has " + (i - from) + " rows", name.isEmpty() || i - from <= 60);
                name = "";
            }
        }
    }
}
