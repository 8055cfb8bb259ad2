import java.lang.reflect.Field;
import java.lang.reflect.Method;

/**
 * Promise 41: no run of calls makes a house that is not sound, so that each thing it checks is put wrong from inside:
 * the names of the class's own fields are used here, and change with them.
 */
public final class SoundTest extends HouseChecks {
    private static final String MELDED = "deal r 2 141; draw; put 31 32 33;";

    private static Object inside(Object house, String path) {
        Object part = house;
        try {
            for (String name : path.split("\\.")) {
                Field field = part.getClass().getDeclaredField(name);
                field.setAccessible(true);
                part = field.get(part);
            }
        } catch (ReflectiveOperationException e) {
            throw new AssertionError(path, e);
        }
        return part;
    }

    private static Object inside(Object house, String path, int index) {
        return ((Object[]) inside(house, path))[index];
    }

    private static Object does(Object part, String name, int... values) {
        try {
            for (Method method : part.getClass().getDeclaredMethods()) {
                if (method.getName().equals(name) && method.getParameterCount() == values.length) {
                    method.setAccessible(true);
                    Object[] boxed = new Object[values.length];
                    for (int i = 0; i < values.length; i++) {
                        boxed[i] = values[i];
                    }
                    return method.invoke(part, boxed);
                }
            }
        } catch (ReflectiveOperationException e) {
            throw new AssertionError(name, e);
        }
        throw new AssertionError(name);
    }

    private static Meldhouse sound(String rows) {
        Meldhouse x = run("a sound house", rows + "isSound = true");
        is("sound at first: " + rows, x.isSound(), true);
        return x;
    }

    /** "all cards of the deal are in one place each" */
    private static void places() {
        for (int card : new int[] {0, 25, 51, 52}) {
            Meldhouse twice = sound(MELDED);
            does(inside(twice, "deal.seats.hands", 1), "add", card);
            is("the card " + card + " twice, in a hand", twice.isSound(), false);
            Meldhouse other = sound(MELDED);
            does(inside(other, "deal.deck.pile"), "add", card);
            is("the card " + card + " twice, in the pile", other.isSound(), false);
        }
        Meldhouse lost = sound(MELDED);
        does(inside(lost, "deal.deck.stock"), "pop");
        is("a card lost from the stock", lost.isSound(), false);
        Meldhouse held = sound(MELDED);
        does(inside(held, "deal.seats.hands", 0), "remove", 34);
        is("a card lost from a hand", held.isSound(), false);
        Meldhouse back = sound(MELDED);
        does(inside(back, "deal.seats.hands", 0), "remove", 34);
        does(inside(back, "deal.deck.stock"), "add", 34);
        is("a card in another place", back.isSound(), true);
        Meldhouse tabled = sound(MELDED);
        does(inside(tabled, "deal.table.rows", 0), "insertRising", 34);
        is("a card in a hand and on the table", tabled.isSound(), false);
    }

    /** "each meld on the table is one" */
    private static void melds() {
        for (int meld = 0; meld < 2; meld++) {
            Meldhouse x = sound("packs 1 2; deal r 3 224; draw; put 3 4 6 52; put 46 48 52;");
            Object row = inside(x, "deal.table.rows", meld);
            Object pile = inside(x, "deal.deck.pile");
            int wrong = (Integer) does(row, "at", 0);
            does(row, "put", 0, (Integer) does(pile, "at", 0));
            does(pile, "put", 0, wrong);
            is("the meld " + meld + " with a card changed for one of the pile", x.isSound(), false);
        }
    }

    /** "known cards are held" */
    private static void known() {
        for (int player = 0; player < 2; player++) {
            Meldhouse x = sound(MELDED);
            does(inside(x, "deal.seats.seen", player), "add", handOf(x, player).get(0));
            is("a held card is known", x.isSound(), true);
            does(inside(x, "deal.seats.seen", player), "add", handOf(x, 1 - player).get(0));
            is("a card that " + player + " has not is known", x.isSound(), false);
        }
    }

    /** "the least deadwood of hands of at most 8 cards is that of another search" */
    private static void searches() {
        is("5 cards", wronged(MELDED), false);
        is("7 cards", wronged("deal r 2 5;"), false);
        is("8 cards", wronged("deal r 2 5; draw;"), false);
        is("9 cards", wronged("deal c 2 5;"), true);
        is("10 cards", wronged("deal g 2 5;"), true);
        is("7 cards in 'c'", wronged("packs 2 4; deal c 2 1269; draw; put 49 50 52;"), false);
    }

    /** Whether a house is told sound when its search keeps a wrong answer for the hand of player 0. */
    private static boolean wronged(String rows) {
        Meldhouse x = sound(rows);
        x.deadwood(0);
        Object most = inside(x, "search.most");
        int place = (Integer) inside(x, "search.code.places") - 1;
        does(most, "put", place, (Integer) does(most, "at", place) + 1);
        return x.isSound();
    }

    /** Without a deal, or behind one, there is nothing to be wrong. */
    private static void noDeal() {
        is("a new house", new Meldhouse().isSound(), true);
        sound("deal c 4 77; passes 30; draw = -1;");
        sound("deal c 4 77; passes 30; draw = -1; packs 2 4;");
        sound("deal g 2 825; draw; knock 15;");
    }

    public static void main(String[] args) {
        places();
        melds();
        known();
        searches();
        noDeal();
        finish();
    }
}
