import java.lang.reflect.Constructor;
import java.lang.reflect.Field;
import java.lang.reflect.Method;
import java.lang.reflect.Modifier;
import java.nio.file.Files;
import java.nio.file.Path;
import java.util.ArrayList;
import java.util.List;
import java.util.Set;
import java.util.TreeSet;
import java.util.regex.Pattern;

/** The rules of ../shared/LANGUAGE.md that can be seen in the source, and what a run makes in the room. */
public final class LanguageTest {
    private static final Path SOURCE = Path.of("src/main/java/Meldhouse.java");
    private static final Path DOCUMENT = Path.of("../shared/DOC.md");
    private static final List<String> FACE = List.of("packs", "ace", "wild", "worth", "type", "wipe", "kind", "least",
            "ways", "melds", "melded", "deal", "stock", "pile", "pileAt", "isFrozen", "held", "hand", "turn", "part",
            "draw", "take", "must", "meld", "layOff", "discard", "knock", "claim", "table", "tabled", "owner",
            "deadwood", "known", "points", "deals", "voids", "checksum", "tableShare", "meanWorth", "isSound");
    private static int failed = 0;
    private static int passed = 0;

    private static void check(String what, boolean holds) {
        if (holds) {
            passed++;
        } else {
            failed++;
            System.out.println("broken: " + what);
        }
    }

    public static void main(String[] args) throws Exception {
        checkFace();
        checkTold(Files.readAllLines(DOCUMENT));
        checkWords(Files.readString(SOURCE));
        checkLengths(Files.readAllLines(SOURCE));
        checkRoom();
        System.out.println(passed + " checks passed, " + failed + " failed");
        System.exit(failed == 0 ? 0 : 1);
    }

    private static void checkFace() {
        Set<String> open = new TreeSet<>();
        for (Method method : Meldhouse.class.getDeclaredMethods()) {
            if (Modifier.isPublic(method.getModifiers())) {
                open.add(method.getName());
            } else {
                check(method + " is private", Modifier.isPrivate(method.getModifiers()));
                check(method + " has no name of the face", !FACE.contains(method.getName()));
            }
        }
        check("the face", open.equals(new TreeSet<>(FACE)));
        for (Constructor<?> constructor : Meldhouse.class.getDeclaredConstructors()) {
            check("the constructor", Modifier.isPublic(constructor.getModifiers()));
        }
        Class<?>[] inside = Meldhouse.class.getDeclaredClasses();
        check("at most 12 classes", inside.length + 1 <= 12);
        for (Class<?> own : inside) {
            check(own + " is static", Modifier.isStatic(own.getModifiers()));
            for (Method method : own.getDeclaredMethods()) {
                check(method + " has no name of the face", !FACE.contains(method.getName()));
                check(method + " has at most 7 parameters", method.getParameterCount() <= 7);
            }
        }
    }

    /** The face is told by the document line by line: what is answered, what is given, what is thrown. */
    private static void checkTold(List<String> document) {
        Set<String> due = new TreeSet<>();
        for (String line : document) {
            if (line.startsWith("    public ") && line.endsWith(";")) {
                due.add(line.strip().replaceAll("(boolean|char|int) \\w+(?=[,)])", "$1"));
            }
        }
        Set<String> got = new TreeSet<>();
        for (Constructor<?> constructor : Meldhouse.class.getDeclaredConstructors()) {
            got.add("public Meldhouse" + namesOf(constructor.getParameterTypes(), "(", ")") + ";");
        }
        for (Method method : Meldhouse.class.getDeclaredMethods()) {
            if (Modifier.isPublic(method.getModifiers())) {
                got.add(Modifier.toString(method.getModifiers()) + " " + method.getReturnType() + " " + method.getName()
                        + namesOf(method.getParameterTypes(), "(", ")")
                        + (method.getExceptionTypes().length == 0 ? "" : " throws ")
                        + namesOf(method.getExceptionTypes(), "", "") + ";");
            }
        }
        check("a face is told", due.size() > 40);
        for (String line : due) {
            check("the document tells: " + line, got.contains(line));
        }
        for (String line : got) {
            check("the document does not tell: " + line, due.contains(line));
        }
        for (Field field : Meldhouse.class.getDeclaredFields()) {
            check(field + " is private", Modifier.isPrivate(field.getModifiers()));
        }
    }

    private static String namesOf(Class<?>[] kinds, String start, String end) {
        List<String> names = new ArrayList<>();
        for (Class<?> kind : kinds) {
            names.add(kind.getSimpleName());
        }
        return start + String.join(", ", names) + end;
    }

    private static void checkWords(String source) {
        String[] banned = {"->", "::", "\\btry\\b", "\\bcatch\\b", "\\bfinally\\b", "\\bsynchronized\\b",
                "\\bassert\\b", "\\binstanceof\\b", "Integer\\.[A-Z]", "Math\\.\\w*Exact", "\\bSystem\\b", "@",
                "\" \\+|\\+ \"", "[^\\x00-\\x7f]"};
        for (String word : banned) {
            check("no " + word, !Pattern.compile(word).matcher(source).find());
        }
        check("one import", source.split("\\bimport\\b").length == 2);
    }

    private static void checkLengths(List<String> lines) {
        int start = -1;
        String indent = "";
        for (int i = 0; i < lines.size(); i++) {
            String line = lines.get(i);
            check("line " + (i + 1) + " is short", line.length() <= 120);
            String lead = line.substring(0, line.length() - line.stripLeading().length());
            boolean isMethod = line.endsWith("{") && line.contains("(") && (lead.length() == 4 || lead.length() == 8)
                    && !line.strip().matches("(if|for|while|switch|\\}).*");
            if (start < 0 && isMethod) {
                start = i;
                indent = lead;
            } else if (start >= 0 && line.equals(indent + "}")) {
                check("method at line " + (start + 1) + " is short", i - start < 60);
                start = -1;
            }
        }
    }

    /** A house is made once and makes nothing behind that, so that its room does not grow by calls. */
    private static void checkRoom() {
        var threads = (com.sun.management.ThreadMXBean) java.lang.management.ManagementFactory.getThreadMXBean();
        long least = Long.MAX_VALUE;
        for (int round = 0; round < 5; round++) {
            Meldhouse x = new Meldhouse();
            long before = threads.getCurrentThreadAllocatedBytes();
            useAll(x);
            least = Math.min(least, threads.getCurrentThreadAllocatedBytes() - before);
        }
        check("calls make nothing, but made bytes: " + least, least < 200);
        long before = threads.getCurrentThreadAllocatedBytes();
        new Meldhouse();
        long made = threads.getCurrentThreadAllocatedBytes() - before;
        check("a house is small, but has bytes: " + made, made < 80_000);
    }

    private static void useAll(Meldhouse x) {
        x.packs(2, 4);
        x.wild(true, true, 4);
        x.ace('r');
        for (int i = 0; i < 11; i++) {
            x.type(i < 4 ? 1 + 13 * i : i + 2);
        }
        x.kind();
        x.least();
        x.ways();
        x.melds();
        x.melded(0, 0);
        x.wipe();
        x.deal('r', 2, 2022);
        x.claim(1);
        x.draw();
        x.type(15);
        x.type(27);
        x.type(28);
        x.meld();
        x.type(1);
        x.layOff(0);
        x.deadwood(0);
        x.isSound();
        x.checksum();
        x.discard(6);
        x.take(0);
        x.discard(6);
        x.tableShare();
        x.meanWorth(0);
    }
}
