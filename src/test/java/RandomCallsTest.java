import java.lang.reflect.InvocationTargetException;
import java.lang.reflect.Method;
import java.util.ArrayList;
import java.util.Collections;
import java.util.HashMap;
import java.util.List;
import java.util.Map;
import java.util.Random;
import java.util.TreeMap;

/** Long runs of calls, most of them moves that can be made, on the class and on the Oracle: all answers are alike. */
public final class RandomCallsTest {
    private static final Map<String, Method> FACE = methods(Meldhouse.class);
    private static final Map<String, Method> MODEL = methods(Oracle.class);
    private static final Map<String, Integer> SEEN = new TreeMap<>();

    private final Random random;
    private final Meldhouse house = new Meldhouse();
    private final Oracle oracle = new Oracle();
    private final List<String> log = new ArrayList<>();
    private boolean isWrong = false;
    private int fruitless = 0;

    private RandomCallsTest(long seed) {
        random = new Random(seed);
    }

    public static void main(String[] args) {
        int runs = args.length > 0 ? Integer.parseInt(args[0]) : 240;
        int wrong = 0;
        for (int seed = 0; seed < runs && wrong < 3; seed++) {
            RandomCallsTest run = new RandomCallsTest(seed);
            run.play(seed % 8);
            if (run.isWrong) {
                wrong++;
                System.out.println("run " + seed + ": " + String.join("; ", run.log));
            }
        }
        wrong += unseen();
        System.out.println(wrong == 0 ? "all runs agree" : wrong + " runs disagree, or calls were not met");
        System.exit(wrong == 0 ? 0 : 1);
    }

    /** A run that never meets a call, or never its good answer, would test nothing. */
    private static int unseen() {
        int unseen = 0;
        List<String> wanted = new ArrayList<>(FACE.keySet());
        Collections.addAll(wanted, "a void deal", "the pile turned", "out by meld", "out by layOff", "out by discard",
                "a gin", "a knock", "an undercut", "a claim served", "a claim served without a stock card",
                "a must used", "a meld of 8 or more",
                "contract 0", "contract 1", "contract 2", "contract 3", "contract 4");
        for (String name : wanted) {
            if (!SEEN.containsKey(name)) {
                unseen++;
                System.out.println("never met: " + name);
            }
        }
        return unseen;
    }

    private static Map<String, Method> methods(Class<?> owner) {
        Map<String, Method> found = new HashMap<>();
        for (Method method : Meldhouse.class.getDeclaredMethods()) {
            if (java.lang.reflect.Modifier.isPublic(method.getModifiers())) {
                try {
                    Method own = owner.getDeclaredMethod(method.getName(), method.getParameterTypes());
                    own.setAccessible(true);
                    found.put(method.getName(), own);
                } catch (NoSuchMethodException e) {
                    throw new AssertionError(e);
                }
            }
        }
        return found;
    }

    private static Object answer(Object target, Method method, Object[] values) {
        try {
            return method.invoke(target, values);
        } catch (InvocationTargetException e) {
            return "throws." + e.getCause().getClass().getSimpleName();
        } catch (IllegalAccessException e) {
            throw new AssertionError(e);
        }
    }

    private Object call(String name, Object... values) {
        if (isWrong || log.size() >= 512) {
            return null;
        }
        int must = oracle.must;
        int claims = oracle.claims.size();
        boolean turned = oracle.turned;
        Object due = answer(oracle, MODEL.get(name), values);
        boolean isGood = !String.valueOf(due).startsWith("throws");
        if (isGood) {
            note(name, due, must, claims, turned);
        }
        Object got = answer(house, FACE.get(name), values);
        StringBuilder text = new StringBuilder(name).append('(');
        for (int i = 0; i < values.length; i++) {
            text.append(i == 0 ? "" : ", ").append(values[i]);
        }
        log.add(text.append(") = ").append(got).toString());
        SEEN.merge(isGood ? name : name + " " + due, 1, Integer::sum);
        if (!due.equals(got)) {
            isWrong = true;
            log.add("due is " + due);
        }
        return due;
    }

    /** Counts what is rare, so that a run without it is told. */
    private void note(String name, Object due, int must, int claims, boolean turned) {
        List<String> met = new ArrayList<>();
        if (oracle.part == 'e' && List.of("meld", "layOff", "discard").contains(name)) {
            met.add("out by " + name);
        }
        if (name.equals("draw")) {
            met.add(due.equals(-1) ? "a void deal" : "draw");
            met.add(!turned && oracle.turned ? "the pile turned" : "draw");
            met.add(!due.equals(-1) && claims > 0
                    ? oracle.stock.isEmpty() ? "a claim served without a stock card" : "a claim served" : "draw");
        }
        if (name.equals("knock")) {
            met.add((Integer) due < 0 ? "an undercut" : (Integer) due >= 25 ? "a gin" : "a knock");
        }
        if (must >= 0 && oracle.must < 0 && !name.equals("discard")) {
            met.add("a must used");
        }
        if (name.equals("layOff") && (Integer) due >= 8) {
            met.add("a meld of 8 or more");
        }
        if (name.equals("discard") && oracle.edition == 'c' && !oracle.table.isEmpty()) {
            met.add("contract " + (oracle.deals - 1) % 5);
        }
        met.removeIf(text -> text.equals(name));
        met.forEach(text -> SEEN.merge(text, 1, Integer::sum));
        if (List.of("draw", "take", "meld", "layOff", "discard", "knock", "deal").contains(name)) {
            fruitless = 0;
        }
    }

    private boolean chance(int percent) {
        return random.nextInt(100) < percent;
    }

    private int anyCard() {
        int roll = random.nextInt(20);
        return roll == 0 ? random.nextInt(60) - 4 : roll < 3 ? 52 : random.nextInt(53);
    }

    private void play(int mode) {
        while (!isWrong && log.size() < 512 && fruitless < 12) {
            fruitless++;
            if (!oracle.on()) {
                prepare(mode);
            } else {
                move(mode);
            }
            int looks = mode % 4 == 3 ? 0 : random.nextInt(3);
            for (int i = 0; i < looks; i++) {
                look();
            }
        }
    }

    private void prepare(int mode) {
        if (mode == 6) {
            call("packs", 2, 4);
            call("ace", 'r');
            call("wild", true, true, 4);
        } else if (mode == 7) {
            call("packs", 2, 4);
            call("ace", "lhr".charAt(random.nextInt(3)));
            call("wild", true, chance(50), 1 + random.nextInt(3));
        } else if (chance(70)) {
            call("packs", chance(50) ? 1 : 2, random.nextInt(5));
            call("ace", "lhr".charAt(random.nextInt(3)));
            call("wild", chance(50), chance(50), random.nextInt(5));
        }
        if (chance(20)) {
            call("packs", random.nextInt(5) - 1, random.nextInt(7) - 1);
            call("ace", "lhrxRL".charAt(random.nextInt(6)));
            call("wild", chance(50), chance(50), random.nextInt(7) - 1);
        }
        if (mode == 0 || chance(20)) {
            study();
        }
        if (chance(10)) {
            call("deal", "grcxG".charAt(random.nextInt(5)), random.nextInt(7) - 1, random.nextInt());
        }
        char edition = mode == 1 || mode == 7 ? 'g' : mode == 2 || mode == 6 ? 'c' : "grc".charAt(random.nextInt(3));
        call("deal", edition, edition == 'g' ? 2 : 2 + random.nextInt(3), random.nextInt());
    }

    /** Types cards that lie close to one another and asks what can be made of them. */
    private void study() {
        call("wipe");
        int suit = random.nextInt(4);
        int rank = random.nextInt(13);
        int size = random.nextInt(14);
        int style = random.nextInt(4);
        for (int i = 0; i < size; i++) {
            int card = suit * 13 + (rank + random.nextInt(7)) % 13;
            if (style == 1 || style == 2 && chance(50)) {
                card = random.nextInt(4) * 13 + (rank + random.nextInt(style)) % 13;
            }
            call("type", chance(15) ? anyCard() : card);
            if (chance(20)) {
                call("kind");
            }
        }
        for (String name : new String[] {"kind", "least", "ways", "melds"}) {
            call(name);
        }
        if (oracle.typed.size() <= 11) {
            List<List<Integer>> way = oracle.firstWay(oracle.typed);
            for (int meld = 0; meld < way.size(); meld++) {
                for (int index = 0; index < way.get(meld).size(); index++) {
                    call("melded", meld, index);
                }
            }
            call("melded", random.nextInt(5) - 1, random.nextInt(14) - 1);
        }
    }

    private void move(int mode) {
        if (oracle.part == 'd') {
            beginTurn(mode);
        } else if (oracle.edition == 'g') {
            playAlone();
        } else {
            playTable(mode);
        }
    }

    private void beginTurn(int mode) {
        while (chance(30)) {
            call("claim", random.nextInt(oracle.players + (chance(10) ? 2 : 0)));
        }
        int pile = oracle.pile.size();
        if (chance(mode == 4 ? 60 : 20)) {
            call("take", chance(30) ? random.nextInt(pile + 2) - 1 : 0);
        } else if (chance(3)) {
            call("discard", anyCard());
        } else {
            call("draw");
        }
    }

    private void playAlone() {
        List<Integer> hand = new ArrayList<>(oracle.hands.get(oracle.turn));
        int best = hand.get(random.nextInt(hand.size()));
        int least = 1000;
        for (int card : hand) {
            List<Integer> rest = new ArrayList<>(hand);
            rest.remove(Integer.valueOf(card));
            int dead = oracle.leastOf(rest);
            if (dead < least) {
                least = dead;
                best = card;
            }
        }
        if (least <= 10 && (least == 0 || chance(60)) || chance(5)) {
            call("knock", chance(95) ? best : anyCard());
        } else {
            call("discard", chance(95) ? best : anyCard());
        }
    }

    private void playTable(int mode) {
        int tries = mode == 5 ? 1 : 3;
        for (int i = 0; i < tries && oracle.part == 'p'; i++) {
            if (chance(70)) {
                tryMeld();
            }
            if (chance(70)) {
                tryLayOff();
            }
        }
        if (oracle.part != 'p') {
            return;
        }
        List<Integer> hand = oracle.hands.get(oracle.turn);
        int times = oracle.must >= 0 || chance(10) ? 3 : 1;
        for (int i = 0; i < times && oracle.part == 'p'; i++) {
            call("discard", chance(95) ? hand.get(random.nextInt(hand.size())) : anyCard());
        }
        if (oracle.must >= 0) {
            call("must");
        }
    }

    private void typeAll(List<Integer> cards) {
        call("wipe");
        List<Integer> mixed = new ArrayList<>(cards);
        Collections.shuffle(mixed, random);
        for (int card : mixed) {
            call("type", card);
        }
    }

    /** The melds of a best way of a part of the hand, in 'c' at first mostly those that meet the contract. */
    private void tryMeld() {
        List<Integer> hand = new ArrayList<>(oracle.hands.get(oracle.turn));
        Collections.shuffle(hand, random);
        List<Integer> part = hand.subList(0, Math.min(hand.size(), chance(80) ? 11 : 7));
        List<List<Integer>> way = new ArrayList<>(oracle.firstWay(part));
        boolean isWhole = way.stream().mapToInt(List::size).sum() == hand.size();
        if (oracle.edition == 'c' && !isWhole && !oracle.owners.contains(oracle.turn) && !isContract(way)
                && chance(98)) {
            return;
        }
        Collections.shuffle(way, random);
        for (List<Integer> meld : way) {
            typeAll(meld);
            call("meld");
        }
        if (way.isEmpty() && chance(10)) {
            call("meld");
        }
    }

    private boolean isContract(List<List<Integer>> way) {
        int[] sets = {1, 0, 2, 1, 0};
        int[] runs = {0, 1, 0, 1, 2};
        int number = (oracle.deals - 1) % 5;
        long setsHere = way.stream().filter(meld -> oracle.kindOf(meld) == 's').count();
        return setsHere >= sets[number] && way.size() - setsHere >= runs[number];
    }

    private void tryLayOff() {
        for (int meld = 0; meld < oracle.table.size(); meld++) {
            for (int card : new ArrayList<>(oracle.hands.get(oracle.turn))) {
                List<Integer> all = new ArrayList<>(oracle.table.get(meld));
                all.add(card);
                if (oracle.part == 'p' && oracle.kindOf(all) != '-' && chance(50)) {
                    typeAll(List.of(card));
                    call("layOff", meld);
                    return;
                }
            }
        }
        if (chance(5)) {
            call("layOff", random.nextInt(oracle.table.size() + 2) - 1);
        }
    }

    private void look() {
        int player = chance(90) && oracle.players > 0 ? random.nextInt(oracle.players) : random.nextInt(7) - 1;
        switch (random.nextInt(24)) {
            case 0: call("stock"); break;
            case 1: call("pile"); break;
            case 2: call("pileAt", random.nextInt(oracle.pile.size() + 2) - 1); break;
            case 3: call("isFrozen"); break;
            case 4: call("held", player); break;
            case 5: call("hand", player, anyCard()); break;
            case 6: call("turn"); break;
            case 7: call("part"); break;
            case 8: call("must"); break;
            case 9: call("table"); break;
            case 10: call("tabled", random.nextInt(oracle.table.size() + 2) - 1, random.nextInt(6) - 1); break;
            case 11: call("owner", random.nextInt(oracle.table.size() + 2) - 1); break;
            case 12: call("deadwood", player); break;
            case 13: lookAtKnown(player); break;
            case 14: call("points", player); break;
            case 15: call("deals"); break;
            case 16: call("voids"); break;
            case 17: case 18: call("checksum"); break;
            case 19: call("tableShare"); break;
            case 20: call("meanWorth", player); break;
            case 21: call("isSound"); break;
            case 22: call("worth", anyCard()); break;
            default: lookRarely(); break;
        }
    }

    private void lookAtKnown(int player) {
        if (player >= 0 && player < oracle.players) {
            for (int card : oracle.known.get(player).keySet()) {
                call("known", player, card);
            }
        }
        call("known", player, anyCard());
    }

    private void lookRarely() {
        switch (random.nextInt(10)) {
            case 0: call("packs", 1, 0); break;
            case 1: call("ace", 'h'); break;
            case 2: call("wild", true, true, 4); break;
            case 3: call("deal", 'r', 2, 5); break;
            case 4: call("draw"); break;
            case 5: call("take", random.nextInt(3)); break;
            case 6: call("knock", anyCard()); break;
            case 7: call("claim", random.nextInt(5)); break;
            case 8: call("meld"); break;
            default: call("layOff", 0); break;
        }
    }
}
