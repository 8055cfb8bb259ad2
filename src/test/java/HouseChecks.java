import java.lang.reflect.InvocationTargetException;
import java.lang.reflect.Method;
import java.lang.reflect.Modifier;
import java.util.ArrayList;
import java.util.Collections;
import java.util.HashMap;
import java.util.List;
import java.util.Map;
import java.util.concurrent.Callable;

/** What the tests share: checks that are counted, runs of calls told as texts, and small helpers. */
class HouseChecks {
    static final String ARGUMENT = "IllegalArgumentException";
    static final String STATE = "IllegalStateException";
    static final String UNSUPPORTED = "UnsupportedOperationException";
    static final String BOUNDS = "IndexOutOfBoundsException";
    static final String ELEMENT = "NoSuchElementException";
    static final String ARITHMETIC = "ArithmeticException";
    private static final Map<Class<?>, Map<String, Method>> FACES = new HashMap<>();
    private static int passed = 0;
    private static int failed = 0;
    private static int calls = 0;

    // ---- checks

    static void is(String what, Object got, Object due) {
        if (due.equals(got)) {
            passed++;
        } else {
            failed++;
            System.out.println(what + " is " + got + ", due is " + due);
        }
    }

    static void fails(String what, Callable<?> call, String due) {
        Object got;
        try {
            got = call.call();
        } catch (Exception e) {
            got = e.getClass().getSimpleName();
        }
        is(what, got, due);
    }

    static void finish() {
        System.out.println(passed + " checks passed, " + failed + " failed");
        System.exit(failed == 0 && passed > 0 ? 0 : 1);
    }

    // ---- calls by name, on the class or on the Oracle

    static Map<String, Method> faceOf(Class<?> owner) {
        return FACES.computeIfAbsent(owner, HouseChecks::findFace);
    }

    private static Map<String, Method> findFace(Class<?> owner) {
        Map<String, Method> found = new HashMap<>();
        for (Method method : Meldhouse.class.getDeclaredMethods()) {
            if (Modifier.isPublic(method.getModifiers())) {
                try {
                    Method own = owner.getDeclaredMethod(method.getName(), method.getParameterTypes());
                    own.setAccessible(true);
                    found.put(method.getName(), own);
                } catch (NoSuchMethodException e) {
                    throw new AssertionError(e);
                }
            }
        }
        return found;
    }

    /** What a call answers; a throw is answered as throws. and the name of the exception. */
    static Object answer(Object target, String name, Object... values) {
        calls += target instanceof Meldhouse ? 1 : 0;
        try {
            return faceOf(target.getClass()).get(name).invoke(target, values);
        } catch (InvocationTargetException e) {
            return "throws." + e.getCause().getClass().getSimpleName();
        } catch (IllegalAccessException e) {
            throw new AssertionError(e);
        }
    }

    private static Object valueOf(Class<?> kind, String text) {
        if (kind == char.class) {
            return text.charAt(0);
        }
        return kind == boolean.class ? (Object) Boolean.valueOf(text) : (Object) Integer.valueOf(text);
    }

    /** A call told as a text, "deal r 2 5", or one of the longer moves of moved. */
    static Object told(Object target, String text) {
        String[] words = text.strip().split(" +");
        Object moved = moved(target, words);
        if (moved != null) {
            return moved;
        }
        Method method = faceOf(target.getClass()).get(words[0]);
        Object[] values = new Object[words.length - 1];
        for (int i = 0; i < values.length; i++) {
            values[i] = valueOf(method.getParameterTypes()[i], words[i + 1]);
        }
        return answer(target, words[0], values);
    }

    private static List<Integer> numbers(String[] words, int from) {
        List<Integer> numbers = new ArrayList<>();
        for (int i = from; i < words.length; i++) {
            numbers.add(Integer.valueOf(words[i]));
        }
        return numbers;
    }

    /** Several calls told as one: null if the words are none of these. */
    private static Object moved(Object x, String[] words) {
        switch (words[0]) {
            case "types":
                retype(x, numbers(words, 1));
                return "";
            case "kindOf":
                retype(x, numbers(words, 1));
                return answer(x, "kind");
            case "put":
                retype(x, numbers(words, 1));
                return answer(x, "meld");
            case "lay":
                retype(x, numbers(words, 2));
                return answer(x, "layOff", Integer.valueOf(words[1]));
            case "cards":
                return joined(cardsOf(x, Integer.parseInt(words[1])));
            case "row":
                return joined(rowAt(x, "tabled", Integer.parseInt(words[1])));
            case "way":
                return wayOf(x);
            case "shed":
                return answer(x, "discard", cardsOf(x, (Integer) answer(x, "turn")).get(0));
            case "pass":
                return passed(x, 1);
            case "passes":
                return passed(x, Integer.parseInt(words[1]));
            default:
                return null;
        }
    }

    /** So many turns in which the card that was drawn is discarded. */
    private static Object passed(Object x, int turns) {
        Object next = "";
        for (int i = 0; i < turns; i++) {
            Object card = answer(x, "draw");
            next = card instanceof Integer ? answer(x, "discard", card) : card;
        }
        return next;
    }

    private static void retype(Object x, List<Integer> cards) {
        answer(x, "wipe");
        for (int card : cards) {
            answer(x, "type", card);
        }
    }

    private static String joined(List<Integer> cards) {
        StringBuilder text = new StringBuilder();
        for (int card : cards) {
            text.append(text.length() == 0 ? "" : " ").append(card);
        }
        return text.toString();
    }

    private static List<Integer> cardsOf(Object x, int player) {
        List<Integer> cards = new ArrayList<>();
        for (int card = 0; card <= 52; card++) {
            cards.addAll(Collections.nCopies((Integer) answer(x, "hand", player, card), card));
        }
        return cards;
    }

    private static List<Integer> rowAt(Object x, String name, int meld) {
        List<Integer> cards = new ArrayList<>();
        Object card = answer(x, name, meld, 0);
        while (card instanceof Integer) {
            cards.add((Integer) card);
            card = answer(x, name, meld, cards.size());
        }
        return cards;
    }

    private static String wayOf(Object x) {
        StringBuilder text = new StringBuilder();
        int melds = (Integer) answer(x, "melds");
        for (int meld = 0; meld < melds; meld++) {
            text.append(meld == 0 ? "" : " | ").append(joined(rowAt(x, "melded", meld)));
        }
        return text.toString();
    }

    /**
     * A run of calls on a new house, told as "deal r 2 5 = 37; draw = 2; take 0 = !Unsupported": behind = stands
     * what is due, behind ! how the name of the exception begins. The Oracle is asked for the same, so that a wrong
     * due is told too; a call without = must not throw, and its answer is that of the Oracle.
     */
    static Meldhouse run(String what, String rows) {
        Meldhouse house = new Meldhouse();
        Oracle oracle = new Oracle();
        calls = 0;
        for (String row : rows.split(";")) {
            if (!row.isBlank()) {
                String[] halves = row.split("=");
                Object got = told(house, halves[0]);
                Object model = told(oracle, halves[0]);
                String due = halves.length > 1 ? halves[1].strip() : String.valueOf(model);
                meets(what + ": " + row.strip(), got, due);
                meets(what + ", by the model: " + row.strip(), model, due);
            }
        }
        is(what + " keeps to 512 calls", calls <= 512, true);
        return house;
    }

    private static void meets(String what, Object got, String due) {
        String text = String.valueOf(got);
        if (due.startsWith("throws.")) {
            is(what + ", throws", due, "nothing");
        } else if (due.startsWith("!")) {
            is(what, text.startsWith("throws." + due.substring(1)) ? due : text, due);
        } else {
            is(what, text, due);
        }
    }

    // ---- small helpers

    /** The next z of a search for a deal: such a search fails, and does not go on for ever, if the house is broken. */
    static int nextZ(int z) {
        if (z > 50_000) {
            throw new AssertionError("no deal is as it is wanted");
        }
        return z + 1;
    }

    static Meldhouse typed(Meldhouse x, int... cards) {
        x.wipe();
        for (int card : cards) {
            x.type(card);
        }
        return x;
    }

    static char kind(Meldhouse x, int... cards) {
        return typed(x, cards).kind();
    }

    /** Many melds: two packs, four jokers, twos wild, loose sets, four wild cards, the ace round. */
    static Meldhouse rich() {
        Meldhouse x = new Meldhouse();
        x.packs(2, 4);
        x.ace('r');
        x.wild(true, true, 4);
        return x;
    }

    static List<Integer> handOf(Meldhouse x, int player) {
        return cardsOf(x, player);
    }

    static int lowest(Meldhouse x) {
        return handOf(x, x.turn()).get(0);
    }

    /** Draws, and discards the lowest card. */
    static void pass(Meldhouse x) {
        x.draw();
        x.discard(lowest(x));
    }

    static List<Integer> meldOf(Meldhouse x, int meld) {
        return rowAt(x, "melded", meld);
    }

    static List<Integer> tabledOf(Meldhouse x, int meld) {
        return rowAt(x, "tabled", meld);
    }

    static int sumOf(Meldhouse x, int player) {
        int sum = 0;
        for (int card : handOf(x, player)) {
            sum += x.worth(card);
        }
        return sum;
    }

    /** Places drawn as the document tells: the cards of a row change theirs; answers z as it is then. */
    static int shuffle(List<Integer> row, int z) {
        for (int k = row.size() - 1; k > 0; k--) {
            z = z * 1103515245 + 12345;
            int place = (z >>> 16) % (k + 1);
            int card = row.get(k);
            row.set(k, row.get(place));
            row.set(place, card);
        }
        return z;
    }

    static List<Integer> rowOf(int packs, int jokers) {
        List<Integer> row = new ArrayList<>();
        for (int pack = 0; pack < packs; pack++) {
            for (int card = 0; card < 52; card++) {
                row.add(card);
            }
        }
        row.addAll(Collections.nCopies(jokers, 52));
        return row;
    }
}
