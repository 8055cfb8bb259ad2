import java.util.ArrayList;
import java.util.Collections;
import java.util.List;
import java.util.concurrent.Callable;

/** Each promise of the document: ordinary calls, the edges that it names, and wrong inputs. */
public final class MeldhouseTest extends HouseChecks {
    /** Types three cards of the hand whose turn it is, the given one among them, that are a meld; or none. */
    private static boolean typeMeldWith(Meldhouse x, int card) {
        List<Integer> hand = handOf(x, x.turn());
        hand.remove(Integer.valueOf(card));
        for (int i = 0; i < hand.size(); i++) {
            for (int k = 0; k < i; k++) {
                if (kind(x, hand.get(k), card, hand.get(i)) != '-') {
                    return true;
                }
            }
        }
        x.wipe();
        return false;
    }

    // ---- the promises

    private static void newObject() {
        Meldhouse x = new Meldhouse();
        is("new part", x.part(), '-');
        is("new stock", x.stock(), 0);
        is("new deals", x.deals(), 0);
        is("new checksum", x.checksum(), 7L);
        is("new order", x.ace('l'), 'l');
        is("new limit", x.wild(false, false, 2), 2);
        is("new wipe", x.wipe(), 0);
        is("new sets are tight", kind(x, 0, 0, 13), '-');
        is("new twos are not wild", x.worth(1), 2);
        is("new packs", x.deal('r', 2, 1), 52 - 15);
    }

    private static void packs() {
        Meldhouse x = new Meldhouse();
        is("packs(1, 0)", x.packs(1, 0), 52);
        is("packs(2, 4)", x.packs(2, 4), 108);
        for (int[] wrong : new int[][] {{0, 0}, {3, 0}, {1, -1}, {2, 5}, {Integer.MIN_VALUE, 0}, {1,
                Integer.MAX_VALUE}}) {
            fails("packs of " + wrong[0] + " and " + wrong[1], () -> x.packs(wrong[0], wrong[1]), ARGUMENT);
        }
        is("deal after wrong packs", x.deal('r', 2, 1), 108 - 15);
        fails("packs in a deal", () -> x.packs(1, 0), STATE);
        fails("wrong packs in a deal", () -> x.packs(3, 0), ARGUMENT);
        is("a deal is not taken away", x.part(), 'd');
    }

    private static void ace() {
        Meldhouse x = new Meldhouse();
        is("kind l a 2 3", kind(x, 0, 1, 2), 'r');
        is("kind l q k a", kind(x, 11, 12, 0), '-');
        is("ace h", x.ace('h'), 'l');
        is("kind h q k a", kind(x, 11, 12, 0), 'r');
        is("kind h a 2 3", kind(x, 0, 1, 2), 'r');
        is("kind h k a 2", kind(x, 12, 0, 1), '-');
        is("ace r", x.ace('r'), 'h');
        is("kind r k a 2", kind(x, 12, 0, 1), 'r');
        is("kind r q k a", kind(x, 11, 12, 0), 'r');
        is("kind r j k 2", kind(x, 10, 12, 1), '-');
        is("kind r j k a 2 and a joker", kind(x, 10, 12, 0, 1, 52), 'r');
        fails("ace x", () -> x.ace('x'), ARGUMENT);
        fails("ace L", () -> x.ace('L'), ARGUMENT);
        is("ace l", x.ace('l'), 'r');
        x.deal('g', 2, 1);
        fails("ace in a deal", () -> x.ace('h'), STATE);
        fails("wrong ace in a deal", () -> x.ace('-'), ARGUMENT);
    }

    private static void wild() {
        Meldhouse x = new Meldhouse();
        is("wild answers 2", x.wild(true, true, 4), 2);
        is("wild answers 4", x.wild(false, false, 0), 4);
        is("kind with limit 0", kind(x, 3, 16, 52), '-');
        is("wild answers 0", x.wild(false, false, 1), 0);
        is("kind with limit 1", kind(x, 3, 16, 52), 's');
        is("kind above limit 1", kind(x, 3, 16, 52, 52), '-');
        fails("wild -1", () -> x.wild(true, true, -1), ARGUMENT);
        fails("wild 5", () -> x.wild(true, true, 5), ARGUMENT);
        is("worth after a wrong wild", x.worth(1), 2);
        is("wild answers 1", x.wild(true, false, 4), 1);
        x.deal('g', 2, 1);
        fails("wild in a deal", () -> x.wild(false, false, 2), STATE);
        fails("wrong wild in a deal", () -> x.wild(false, false, 9), ARGUMENT);
        is("worth after wild in a deal", x.worth(14), 20);
    }

    private static void worth() {
        Meldhouse x = new Meldhouse();
        int[][] due = {{0, 1}, {1, 2}, {8, 9}, {9, 10}, {10, 10}, {12, 10}, {13, 1}, {51, 10}, {52, 20}, {40, 2}};
        for (int[] pair : due) {
            is("worth of " + pair[0], x.worth(pair[0]), pair[1]);
        }
        x.wild(true, false, 2);
        is("worth of a wild two", x.worth(40), 20);
        is("worth of a three by it", x.worth(41), 3);
        fails("worth of -1", () -> x.worth(-1), ARGUMENT);
        fails("worth of 53", () -> x.worth(53), ARGUMENT);
    }

    private static void type() {
        Meldhouse x = new Meldhouse();
        for (int i = 1; i <= 13; i++) {
            is("type " + i, x.type(52), i);
        }
        fails("type a 14th", () -> x.type(0), STATE);
        fails("type a wrong 14th", () -> x.type(53), ARGUMENT);
        fails("type -1", () -> new Meldhouse().type(-1), ARGUMENT);
        is("wipe 13", x.wipe(), 13);
    }

    private static void wipe() {
        Meldhouse x = typed(new Meldhouse(), 4, 4);
        is("wipe 2", x.wipe(), 2);
        is("wipe again", x.wipe(), 0);
        is("type after wipe", x.type(4), 1);
    }

    private static void kinds() {
        Meldhouse x = new Meldhouse();
        is("kind of none", kind(x), '-');
        is("kind of a pair", kind(x, 3, 16), '-');
        is("kind of a set", kind(x, 3, 16, 29), 's');
        is("kind of a set of 4", kind(x, 42, 3, 16, 29), 's');
        is("kind of a set of 5", kind(x, 42, 3, 16, 29, 52), '-');
        is("kind of a tight set of like cards", kind(x, 3, 3, 16), '-');
        is("kind of a set with two jokers", kind(x, 3, 16, 52, 52), 's');
        is("kind of one card that is not wild", kind(x, 3, 52, 52), '-');
        is("kind of a run", kind(x, 5, 3, 4), 'r');
        is("kind of a run with like cards", kind(x, 5, 3, 4, 4), '-');
        is("kind of a run of two suits", kind(x, 5, 3, 17), '-');
        is("kind of a run with a gap", kind(x, 3, 5, 52), 'r');
        is("kind of a run with too wide a gap", kind(x, 3, 6, 52), '-');
        is("kind of a run with a wide gap", kind(x, 3, 6, 52, 52), 'r');
        is("kind of a whole suit", kind(x, 0, 1, 2, 3, 4, 5, 6, 7, 8, 9, 10, 11, 12), 'r');
        is("kind of a whole suit but two", kind(x, 0, 52, 2, 3, 4, 5, 52, 7, 8, 9, 10, 11, 12), 'r');
        is("kind of three jokers", kind(x, 52, 52, 52), '-');
        x.wild(true, true, 4);
        is("kind of a loose set", kind(x, 3, 3, 3), 's');
        is("kind of a loose set of 8", kind(x, 3, 3, 3, 3, 16, 29, 52, 14), 's');
        is("kind of a loose set of 9", kind(x, 3, 3, 3, 3, 16, 29, 52, 14, 1), '-');
        is("kind of a run with a wild two", kind(x, 3, 5, 40), 'r');
        is("kind of a run with its own two as wild", kind(x, 0, 1, 2), 'r');
        is("kind of twos that are wild", kind(x, 1, 14, 27), '-');
        x.wild(true, true, 4);
        is("kind with 4 wild cards", kind(x, 3, 8, 52, 52, 1, 1), 'r');
        is("kind with 5 wild cards", kind(x, 3, 8, 52, 52, 1, 1, 1), '-');
    }

    private static void least() {
        Meldhouse x = new Meldhouse();
        is("least of none", typed(x).least(), 0);
        is("least of one", typed(x, 12).least(), 10);
        is("least of a joker", typed(x, 52).least(), 20);
        is("least of a run and a set", typed(x, 0, 1, 2, 14, 27, 40, 30).least(), 5);
        is("least with a card for two melds", typed(x, 2, 3, 4, 17, 30).least(), 3 + 4);
        is("least of 11", typed(x, 0, 1, 2, 3, 16, 29, 42, 20, 21, 22, 52).least(), 0);
        is("least of 11 jokers", typed(x, 52, 52, 52, 52, 52, 52, 52, 52, 52, 52, 52).least(), 220);
        x.type(0);
        fails("least of 12", x::least, UNSUPPORTED);
        x.wild(false, false, 0);
        is("least when the limit falls", typed(x, 3, 16, 52).least(), 28);
        x.wild(false, false, 1);
        is("least when the limit rises", x.least(), 0);
        x.ace('h');
        is("least when the ace rises", typed(x, 11, 12, 0).least(), 0);
        x.ace('l');
        is("least when the ace falls", x.least(), 21);
    }

    private static void ways() {
        Meldhouse x = new Meldhouse();
        is("ways of none", typed(x).ways(), 1);
        is("ways of one", typed(x, 7).ways(), 1);
        is("ways of six in a run", typed(x, 0, 1, 2, 3, 4, 5).ways(), 2);
        is("ways of a run or a set", typed(x, 9, 10, 11, 24, 37).ways(), 2);
        is("ways of a run and a better set", typed(x, 2, 3, 4, 17, 30).ways(), 1);
        is("ways with like cards", typed(x, 3, 3, 16, 29).ways(), 1);
        x.wild(false, true, 2);
        is("ways of like cards in loose sets", typed(x, 3, 3, 3, 3, 3, 3).ways(), 2);
        is("ways of like and unlike cards", typed(x, 3, 3, 3, 16, 16, 16).ways(), 3);
        typed(x, 0, 0, 0, 0, 0, 0, 0, 0, 0, 0, 0);
        is("ways of 11", x.ways(), 5);
        x.type(0);
        fails("ways of 12", x::ways, UNSUPPORTED);
    }

    private static void melds() {
        Meldhouse x = new Meldhouse();
        is("melds of none", typed(x).melds(), 0);
        is("melds of six in a run", typed(x, 0, 1, 2, 3, 4, 5).melds(), 2);
        is("melds of seven and two sets", typed(x, 0, 1, 2, 14, 27, 40, 30).melds(), 2);
        is("melds of 11", typed(x, 0, 13, 26, 1, 14, 27, 2, 15, 28, 9, 11).melds(), 3);
        x.type(0);
        fails("melds of 12", x::melds, UNSUPPORTED);
    }

    private static void melded() {
        Meldhouse x = typed(new Meldhouse(), 5, 4, 3, 2, 1, 0);
        is("first meld, the shorter ahead", meldOf(x, 0), List.of(0, 1, 2));
        is("second meld", meldOf(x, 1), List.of(3, 4, 5));
        fails("third meld", () -> x.melded(2, 0), ELEMENT);
        fails("meld -1", () -> x.melded(-1, 0), ELEMENT);
        fails("index -1", () -> x.melded(0, -1), ELEMENT);
        fails("index 3", () -> x.melded(0, 3), ELEMENT);
        typed(x, 37, 24, 11, 10, 9);
        is("the run is ahead of the set", meldOf(x, 0), List.of(9, 10, 11));
        typed(x, 37, 24, 11, 10, 9, 8);
        is("a run that leaves the set a card", meldOf(x, 0), List.of(8, 9, 10));
        typed(x, 52, 16, 3, 29, 17, 18, 52);
        is("the shorter one is ahead of it with a joker", meldOf(x, 0), List.of(3, 16, 29));
        is("and the jokers are in the second one", meldOf(x, 1), List.of(17, 18, 52, 52));
        typed(x, 0, 0, 0, 0, 0, 0, 0, 0, 0, 0, 0, 0);
        fails("melded of 12", () -> x.melded(0, 0), UNSUPPORTED);
        fails("wrong meld of 12", () -> x.melded(-1, 0), UNSUPPORTED);
    }

    private static void deal() {
        Meldhouse x = new Meldhouse();
        is("deal r 2", x.deal('r', 2, 5), 37);
        is("draw of it", x.draw(), 2);
        for (Object[] wrong : new Object[][] {{'g', 3}, {'g', 1}, {'r', 1}, {'r', 5}, {'c', 0}, {'c', -2}, {'x', 2},
                {'R', 2}}) {
            fails("deal " + wrong[0] + wrong[1], () -> new Meldhouse().deal((char) wrong[0], (int) wrong[1], 1),
                    ARGUMENT);
            fails("deal in a deal " + wrong[0] + wrong[1], () -> x.deal((char) wrong[0], (int) wrong[1], 1), ARGUMENT);
        }
        fails("deal in a deal", () -> x.deal('r', 2, 5), STATE);
        is("deals after wrong ones", x.deals(), 1);
        dealtAs('g', 2, 10, 1, 0, 7);
        dealtAs('r', 4, 7, 1, 4, -99);
        dealtAs('r', 3, 7, 2, 0, Integer.MIN_VALUE);
        dealtAs('c', 4, 9, 1, 0, 123456789);
        dealtAs('c', 2, 9, 2, 3, 0);
    }

    private static void dealtAs(char edition, int players, int each, int packs, int jokers, int z) {
        Meldhouse x = new Meldhouse();
        x.packs(packs, jokers);
        List<Integer> row = rowOf(packs, jokers);
        shuffle(row, z);
        int stock = row.size() - players * each - 1;
        is("stock of " + edition + players, x.deal(edition, players, z), stock);
        List<List<Integer>> hands = new ArrayList<>();
        for (int player = 0; player < players; player++) {
            hands.add(new ArrayList<>());
        }
        int top = row.size();
        for (int i = 0; i < players * each; i++) {
            top--;
            hands.get(i % players).add(row.get(top));
        }
        for (int player = 0; player < players; player++) {
            Collections.sort(hands.get(player));
            is("hand " + player + " of " + edition + players, handOf(x, player), hands.get(player));
        }
        is("pile of " + edition + players, x.pileAt(0), row.get(top - 1));
        is("top of the stock of " + edition + players, x.draw(), row.get(top - 2));
    }

    private static void seen() {
        Meldhouse x = new Meldhouse();
        is("no pile", x.pile(), 0);
        fails("no pileAt", () -> x.pileAt(0), ELEMENT);
        is("no frozen pile", x.isFrozen(), false);
        fails("no held", () -> x.held(0), BOUNDS);
        fails("no hand", () -> x.hand(0, 53), BOUNDS);
        fails("no turn", x::turn, STATE);
        x.deal('r', 3, 9);
        is("stock", x.stock(), 52 - 22);
        is("pile", x.pile(), 1);
        is("held 0", x.held(0), 7);
        is("held 2", x.held(2), 7);
        fails("held 3", () -> x.held(3), BOUNDS);
        fails("held -1", () -> x.held(-1), BOUNDS);
        fails("hand 3", () -> x.hand(3, 0), BOUNDS);
        fails("hand of a wrong card", () -> x.hand(0, 53), ARGUMENT);
        fails("hand of card -1", () -> x.hand(0, -1), ARGUMENT);
        is("turn", x.turn(), 0);
        is("part d", x.part(), 'd');
        int first = x.pileAt(0);
        int drawn = x.draw();
        is("stock less", x.stock(), 29);
        is("held more", x.held(0), 8);
        is("part p", x.part(), 'p');
        is("hand of the drawn card", x.hand(0, drawn), 1);
        x.discard(drawn);
        is("turn 1", x.turn(), 1);
        is("pile more", x.pile(), 2);
        is("top of the pile", x.pileAt(0), drawn);
        is("bottom of the pile", x.pileAt(1), first);
        fails("below the pile", () -> x.pileAt(2), ELEMENT);
        fails("above the pile", () -> x.pileAt(-1), ELEMENT);
        pass(x);
        pass(x);
        is("turn 0 again", x.turn(), 0);
    }

    private static void rulesTakeAway() {
        Meldhouse x = ended();
        is("part e", x.part(), 'e');
        is("an ended deal is seen", x.held(1), 7);
        fails("an ended deal has no turn", x::turn, STATE);
        int won = x.points(0);
        is("rules after a deal", x.ace('l'), 'r');
        is("part of a deal taken away", x.part(), '-');
        fails("held of a deal taken away", () -> x.held(0), BOUNDS);
        is("table of a deal taken away", x.table(), 0);
        is("stock of a deal taken away", x.stock() + x.pile(), 0);
        is("checksum of a deal taken away", x.checksum(), 7L);
        fails("share of a deal taken away", x::tableShare, ARITHMETIC);
        is("deals of it", x.deals(), 1);
        is("points of it", x.points(0), won);
        is("sound without it", x.isSound(), true);
        for (int rule = 0; rule < 2; rule++) {
            Meldhouse y = ended();
            int ignored = rule == 0 ? y.packs(2, 4) : y.wild(true, true, 4);
            is("part after rule " + rule, y.part(), '-');
        }
        Meldhouse z = ended();
        fails("wrong rules after a deal", () -> z.packs(3, 0), ARGUMENT);
        is("wrong rules take nothing away", z.part(), 'e');
        is("a deal follows a deal", z.deal('c', 2, 1), 108 - 19);
        is("part of the next deal", z.part(), 'd');
        is("the table is clear then", z.table(), 0);
        is("points stay", z.points(0), won);
    }

    /** An edition 'r' deal in which the player 0 is out by two melds in the first turn. */
    private static Meldhouse ended() {
        Meldhouse x = rich();
        x.deal('r', 2, 2022);
        x.draw();
        typed(x, 1, 1, 6, 32, 32).meld();
        typed(x, 15, 27, 28).meld();
        return x;
    }

    private static void draw() {
        Meldhouse x = new Meldhouse();
        fails("draw without a deal", x::draw, STATE);
        x.packs(1, 0);
        int z = 77;
        List<Integer> row = rowOf(1, 0);
        z = shuffle(row, z);
        x.deal('c', 4, 77);
        List<Integer> pile = new ArrayList<>(List.of(x.pileAt(0)));
        for (int i = 0; i < 15; i++) {
            is("draw " + i, x.draw(), row.get(14 - i));
            fails("draw twice", x::draw, UNSUPPORTED);
            pile.add(lowest(x));
            x.discard(lowest(x));
        }
        is("stock is out", x.stock(), 0);
        int top = pile.remove(15);
        shuffle(pile, z);
        for (int i = 0; i < 15; i++) {
            is("draw of the turned pile " + i, x.draw(), pile.get(14 - i));
            is("pile turned but its top", x.pileAt(x.pile() - 1), top);
            x.discard(lowest(x));
        }
        is("voids ahead", x.voids(), 0);
        is("pile ahead", x.pile(), 16);
        is("draw of a void deal", x.draw(), -1);
        is("part v", x.part(), 'v');
        is("voids", x.voids(), 1);
        is("pile is not turned twice", x.pile(), 16);
        fails("draw after the deal", x::draw, STATE);
        is("points of a void deal", x.points(0) + x.points(1) + x.points(2) + x.points(3), 0);
        is("sound when void", x.isSound(), true);
        x.deal('c', 4, 1);
        is("a deal behind a void one", x.part(), 'd');
    }

    private static void drawWithoutPile() {
        Meldhouse x = new Meldhouse();
        x.deal('c', 4, 3);
        for (int i = 0; i < 8; i++) {
            int next = (x.turn() + 1) % 4;
            x.claim(next);
            x.draw();
            is("claims leave a pile of none", x.pile(), 0);
            x.discard(lowest(x));
        }
        is("the last claim had no card of the stock", x.stock(), 0);
        is("one card lies in the pile", x.pile(), 1);
        is("nothing is turned", x.draw(), -1);
        is("the top stays", x.pile(), 1);
        is("void by that", x.part(), 'v');
        is("one void deal", x.voids(), 1);
    }

    private static void take() {
        Meldhouse x = new Meldhouse();
        fails("take without a deal", () -> x.take(0), STATE);
        x.deal('g', 2, 4);
        int top = x.pileAt(0);
        fails("take 1 in g", () -> x.take(1), UNSUPPORTED);
        fails("take -1 in g", () -> x.take(-1), ELEMENT);
        is("take 0 in g", x.take(0), 1);
        is("taken card", x.hand(0, top), 1);
        is("pile taken", x.pile(), 0);
        fails("take twice", () -> x.take(0), UNSUPPORTED);
        fails("draw after take", x::draw, UNSUPPORTED);
        x.discard(top);
        is("the taken card goes back", x.pileAt(0), top);
        Meldhouse y = new Meldhouse();
        y.deal('r', 2, 4);
        pass(y);
        pass(y);
        fails("take 3 of 3", () -> y.take(3), ELEMENT);
        fails("take -1", () -> y.take(-1), ELEMENT);
        fails("take as deep as can be told", () -> y.take(Integer.MAX_VALUE), ELEMENT);
        is("part after wrong takes", y.part(), 'd');
        is("take 2 of 3", y.take(2), 3);
        is("held then", y.held(0), 10);
        fails("take behind take", () -> y.take(9), UNSUPPORTED);
    }

    private static void frozen() {
        for (char edition : new char[] {'g', 'r', 'c'}) {
            Meldhouse x = new Meldhouse();
            x.packs(1, 4);
            int z = 0;
            x.deal(edition, 2, z);
            x.draw();
            while (x.hand(0, 52) == 0 || x.isFrozen()) {
                x = new Meldhouse();
                x.packs(1, 4);
                z = nextZ(z);
                x.deal(edition, 2, z);
                x.draw();
            }
            Meldhouse y = x;
            is("free " + edition, y.isFrozen(), false);
            y.discard(52);
            is("frozen " + edition, y.isFrozen(), true);
            fails("take of a frozen pile " + edition, () -> y.take(0), UNSUPPORTED);
            fails("take of no card of a frozen pile " + edition, () -> y.take(9), UNSUPPORTED);
            fails("claim of a frozen pile " + edition, () -> y.claim(0), UNSUPPORTED);
            y.draw();
            for (int card : handOf(y, 1)) {
                if (card != 52) {
                    y.discard(card);
                    break;
                }
            }
            is("frozen below the top " + edition, y.isFrozen(), true);
            fails("take of the top " + edition, () -> y.take(0), UNSUPPORTED);
        }
    }

    private static void must() {
        fails("must without a deal", () -> new Meldhouse().must(), STATE);
        Meldhouse x = rich();
        int z = 0;
        while (!isBound(x, z)) {
            x = rich();
            z = nextZ(z);
        }
        Meldhouse y = x;
        int bound = y.must();
        is("must is the deepest card", y.hand(1, bound) > 0, true);
        int held = y.held(1);
        for (int card : handOf(y, 1)) {
            fails("discard ahead of it", () -> y.discard(card), UNSUPPORTED);
        }
        is("must stays", y.must(), bound);
        typeMeldWith(y, bound);
        is("meld with it", y.meld(), 0);
        is("held less", y.held(1), held - 3);
        fails("must is used", y::must, ELEMENT);
        is("discard then", y.discard(lowest(y)), 0);
        fails("must in the part to draw", y::must, ELEMENT);
        y.draw();
        fails("must after a draw", y::must, ELEMENT);
        y.discard(lowest(y));
        if (!y.isFrozen()) {
            y.take(0);
            fails("must after the top", y::must, ELEMENT);
        }
    }

    /** Whether the player 1 takes the second card of the pile, which is in a meld of the hand then. */
    private static boolean isBound(Meldhouse x, int z) {
        x.deal('r', 2, z);
        pass(x);
        if (x.isFrozen()) {
            return false;
        }
        int deep = x.pileAt(1);
        is("take 1", x.take(1), 2);
        is("must", x.must(), deep);
        return typeMeldWith(x, deep);
    }

    private static void mustByLayOff() {
        Meldhouse x = rich();
        int z = 0;
        while (!isBoundToLayOff(x, z)) {
            x = rich();
            z = nextZ(z);
        }
        Meldhouse y = x;
        int bound = y.must();
        fails("discard ahead of the lay-off", () -> y.discard(lowest(y)), UNSUPPORTED);
        is("lay off what is bound", typed(y, bound).layOff(0), 4);
        fails("no must behind it", y::must, ELEMENT);
        is("discard behind it", y.discard(lowest(y)), 1);
    }

    /** Whether the player 0 melds, and takes in the next turn a second card of the pile that can be laid off. */
    private static boolean isBoundToLayOff(Meldhouse x, int z) {
        x.deal('r', 2, z);
        x.draw();
        boolean isMelded = false;
        for (int card : handOf(x, 0)) {
            isMelded = isMelded || typeMeldWith(x, card);
        }
        if (!isMelded) {
            return false;
        }
        x.meld();
        x.discard(lowest(x));
        pass(x);
        if (x.isFrozen()) {
            return false;
        }
        List<Integer> all = tabledOf(x, 0);
        all.add(x.pileAt(1));
        char kind = kind(x, all.stream().mapToInt(card -> card).toArray());
        x.take(1);
        return kind != '-';
    }

    private static void meld() {
        fails("meld without a deal", () -> new Meldhouse().meld(), STATE);
        Meldhouse x = rich();
        x.deal('r', 2, 2022);
        fails("meld in the part to draw", () -> typed(x, 15, 27, 28).meld(), UNSUPPORTED);
        x.draw();
        is("not wiped by it", x.wipe(), 3);
        fails("meld of none", x::meld, UNSUPPORTED);
        fails("meld of no meld", () -> typed(x, 15, 28, 6).meld(), UNSUPPORTED);
        fails("meld of cards not held", () -> typed(x, 15, 28, 41).meld(), UNSUPPORTED);
        fails("meld of jokers not held", () -> typed(x, 15, 28, 52).meld(), UNSUPPORTED);
        fails("meld of like cards not held", () -> typed(x, 15, 28, 27, 27).meld(), UNSUPPORTED);
        is("meld 0", typed(x, 28, 15, 27).meld(), 0);
        is("wiped then", x.wipe(), 0);
        is("held then", x.held(0), 5);
        is("not held then", x.hand(0, 28), 0);
        is("one meld", x.table(), 1);
        is("its cards rise", tabledOf(x, 0), List.of(15, 27, 28));
        is("its owner", x.owner(0), 0);
        int others = 0;
        for (int card : handOf(x, 1)) {
            others += x.worth(card);
        }
        is("meld 1", typed(x, 1, 32, 1, 6, 32).meld(), 1);
        is("out by a meld", x.part(), 'e');
        is("points of it", x.points(0), others);
        is("held by the one who is out", x.held(0), 0);
        fails("mean of none", () -> x.meanWorth(0), ARITHMETIC);
        fails("meld when out", x::meld, STATE);
        Meldhouse g = new Meldhouse();
        g.packs(1, 2);
        g.ace('h');
        g.deal('g', 2, 8);
        g.draw();
        fails("meld in g", () -> typed(g, 15, 16, 17).meld(), UNSUPPORTED);
        fails("lay off in g", () -> g.layOff(0), BOUNDS);
    }

    private static void contracts() {
        Meldhouse x = rich();
        x.deal('c', 2, 683);
        x.draw();
        typed(x, 0, 11, 14).meld();
        typed(x, 17, 19, 20, 52).meld();
        is("three cards are left", x.held(0), 3);
        fails("out by melds without a set", () -> typed(x, 44, 46, 52).meld(), UNSUPPORTED);
        fails("discard without a set", () -> x.discard(44), UNSUPPORTED);
        is("still three", x.held(0), 3);
        Meldhouse y = rich();
        y.deal('c', 2, 2480);
        y.draw();
        typed(y, 0, 14, 27, 39).meld();
        typed(y, 4, 43, 52).meld();
        typed(y, 8, 21, 34).meld();
        is("out with three sets", y.part(), 'e');
        Meldhouse z = numbered(1);
        z.deal('c', 2, 2480);
        z.draw();
        typed(z, 0, 14, 27, 39).meld();
        typed(z, 4, 43, 52).meld();
        fails("out without a run in the second deal", () -> typed(z, 8, 21, 34).meld(), UNSUPPORTED);
        Meldhouse w = numbered(1);
        w.deal('c', 2, 683);
        w.draw();
        typed(w, 0, 11, 14).meld();
        is("a run is the contract of the second deal", w.discard(44), 1);
        contractOf(0, "s--", "d");
        contractOf(2, "s--", "-");
        contractOf(2, "ss-", "d");
        contractOf(3, "ss-", "-");
        contractOf(3, "s--", "-");
        contractOf(4, "ss-", "-");
        contractOf(5, "s--", "d");
        runsOf(0, 1, "-");
        runsOf(1, 1, "d");
        runsOf(2, 2, "-");
        runsOf(3, 2, "-");
        runsOf(4, 1, "-");
        runsOf(4, 2, "d");
        runsOf(6, 1, "d");
        mixedContract();
    }

    /** A house with so many deals behind it: none of them is in 'c'. */
    private static Meldhouse numbered(int deals) {
        Meldhouse x = rich();
        for (int i = 0; i < deals; i++) {
            x.deal('r', 2, 2022);
            x.draw();
            typed(x, 1, 1, 6, 32, 32).meld();
            typed(x, 15, 27, 28).meld();
        }
        return x;
    }

    private static void contractOf(int number, String sets, String due) {
        Meldhouse x = numbered(number);
        x.deal('c', 2, 2480);
        x.draw();
        int[][] all = {{4, 43, 52}, {8, 21, 34}};
        for (int i = 0; i < all.length && sets.charAt(i) == 's'; i++) {
            typed(x, all[i]).meld();
        }
        contractEnds("sets " + sets + " in deal " + number, x, due);
    }

    private static void runsOf(int number, int runs, String due) {
        Meldhouse x = numbered(number);
        x.deal('c', 2, 683);
        x.draw();
        int[][] all = {{17, 19, 20, 52}, {44, 46, 52}};
        for (int i = 0; i < runs; i++) {
            typed(x, all[i]).meld();
        }
        contractEnds("runs " + runs + " in deal " + number, x, due);
    }

    private static void contractEnds(String what, Meldhouse x, String due) {
        if (due.equals("d")) {
            is(what, x.discard(lowest(x)), 1);
        } else {
            fails(what, () -> x.discard(lowest(x)), UNSUPPORTED);
        }
    }

    private static void mixedContract() {
        Meldhouse x = numbered(3);
        x.deal('c', 2, 364);
        x.draw();
        typed(x, 24, 24, 52).meld();
        fails("a set alone in the fourth deal", () -> x.discard(7), UNSUPPORTED);
        typed(x, 42, 43, 44).meld();
        is("a set and a run in the fourth deal", x.discard(7), 1);
        pass(x);
        x.draw();
        is("the contract stays met", x.discard(lowest(x)), 1);
        Meldhouse y = numbered(4);
        y.deal('c', 2, 364);
        is("nobody must meld", y.draw() >= 0 ? y.discard(lowest(y)) : -9, 1);
    }

    private static void layOff() {
        fails("lay off without a deal", () -> new Meldhouse().layOff(0), STATE);
        Meldhouse x = rich();
        x.deal('r', 2, 2022);
        x.draw();
        fails("lay off to no meld", () -> typed(x, 1).layOff(0), BOUNDS);
        typed(x, 15, 27, 28).meld();
        fails("lay off to meld 1", () -> typed(x, 1).layOff(1), BOUNDS);
        fails("lay off to meld -1", () -> x.layOff(-1), BOUNDS);
        fails("lay off what is no meld then", () -> typed(x, 32).layOff(0), UNSUPPORTED);
        fails("lay off what is not held", () -> typed(x, 2).layOff(0), UNSUPPORTED);
        x.wipe();
        fails("lay off nothing", () -> x.layOff(0), UNSUPPORTED);
        is("lay off a two", typed(x, 1).layOff(0), 4);
        is("laid off among the others", tabledOf(x, 0), List.of(1, 15, 27, 28));
        is("wiped by it", x.wipe(), 0);
        is("held behind it", x.held(0), 4);
        is("lay off two cards to go out but one", typed(x, 6, 32, 32).meld(), 1);
        is("one card left", x.held(0), 1);
        is("out by a card laid off", typed(x, 1).layOff(1), 4);
        is("part behind it", x.part(), 'e');
        is("points by it", x.points(0), sumOf(x, 1));
        fails("lay off behind it", () -> x.layOff(0), STATE);
        layOffByOthers();
        layOffWithoutContract();
    }

    private static void layOffByOthers() {
        Meldhouse x = rich();
        x.deal('r', 2, 2022);
        x.draw();
        typed(x, 6, 32, 32).meld();
        x.discard(15);
        fails("lay off in the part to draw", () -> typed(x, lowest(x)).layOff(0), UNSUPPORTED);
        x.draw();
        for (int card : handOf(x, 1)) {
            fails("lay off by one who has not melded", () -> typed(x, card).layOff(0), UNSUPPORTED);
        }
        int z = 0;
        Meldhouse y = rich();
        while (!isLaidOffToOther(y, z)) {
            y = rich();
            z = nextZ(z);
        }
        is("owner of a meld laid off to by the other one", y.owner(0), 0);
        is("owner of the meld of the other one", y.owner(1), 1);
        fails("owner 2", ownerOf(y, 2), BOUNDS);
        fails("owner -1", ownerOf(y, -1), BOUNDS);
        is("sound with it", y.isSound(), true);
    }

    private static Callable<Integer> ownerOf(Meldhouse x, int meld) {
        return () -> x.owner(meld);
    }

    /** Whether both players meld and the second lays a card off to the meld of the first. */
    private static boolean isLaidOffToOther(Meldhouse x, int z) {
        x.deal('r', 2, z);
        for (int player = 0; player < 2; player++) {
            x.draw();
            boolean isMelded = false;
            for (int card : handOf(x, player)) {
                isMelded = isMelded || typeMeldWith(x, card);
            }
            if (!isMelded) {
                return false;
            }
            x.meld();
            if (player == 0) {
                x.discard(lowest(x));
            }
        }
        for (int card : handOf(x, 1)) {
            typed(x, card);
            try {
                is("laid off to the other one's", x.layOff(0), 4);
                return true;
            } catch (UnsupportedOperationException e) {
                continue;
            }
        }
        return false;
    }

    private static void layOffWithoutContract() {
        Meldhouse x = numbered(4);
        x.deal('c', 2, 683);
        x.draw();
        typed(x, 17, 19, 20, 52).meld();
        is("lay off ahead of the contract", typed(x, 14).layOff(0), 5);
        fails("but not the discard", () -> x.discard(0), UNSUPPORTED);
        typed(x, 44, 46, 52).meld();
        is("the contract is met by a second run", x.discard(0), 1);
    }

    private static void discard() {
        fails("discard without a deal", () -> new Meldhouse().discard(0), STATE);
        fails("wrong discard without a deal", () -> new Meldhouse().discard(99), STATE);
        Meldhouse x = new Meldhouse();
        x.deal('r', 3, 11);
        fails("discard in the part to draw", () -> x.discard(lowest(x)), UNSUPPORTED);
        fails("wrong discard in the part to draw", () -> x.discard(-1), ARGUMENT);
        x.draw();
        fails("discard 53", () -> x.discard(53), ARGUMENT);
        for (int card = 0; card <= 52; card++) {
            int other = card;
            if (x.hand(0, card) == 0) {
                fails("discard of a card not held", () -> x.discard(other), UNSUPPORTED);
            }
        }
        int low = lowest(x);
        is("discard", x.discard(low), 1);
        is("held behind it", x.held(0), 7);
        is("pile behind it", x.pileAt(0), low);
        is("part behind it", x.part(), 'd');
        x.draw();
        is("discard of the second", x.discard(lowest(x)), 2);
        x.draw();
        is("discard of the third", x.discard(lowest(x)), 0);
        Meldhouse y = rich();
        y.deal('r', 2, 2022);
        y.draw();
        typed(y, 1, 1, 6, 32, 32).meld();
        typed(y, 15, 28, 27);
        y.wipe();
        y.discard(15);
        pass(y);
        for (int turn = 0; turn < 50 && !outByDiscard(y); turn++) {
            pass(y);
        }
        is("part of one who is out by a discard", y.part(), 'e');
        is("points of it", y.points(0), sumOf(y, 1));
        is("sound then", y.isSound(), true);
    }

    /** Whether the player 0, who has melded, gets rid of all but one by cards laid off, and discards the last. */
    private static boolean outByDiscard(Meldhouse x) {
        x.draw();
        for (int card : handOf(x, 0)) {
            if (x.held(0) > 1) {
                typed(x, card);
                for (int meld = 0; meld < x.table(); meld++) {
                    try {
                        x.layOff(meld);
                        break;
                    } catch (UnsupportedOperationException e) {
                        continue;
                    }
                }
            }
        }
        boolean isLast = x.held(0) == 1;
        int answer = x.discard(lowest(x));
        is("discard answers the next one, or who is out", answer, isLast ? 0 : 1);
        return isLast;
    }

    private static void knock() {
        fails("knock without a deal", () -> new Meldhouse().knock(0), STATE);
        Meldhouse x = gin(1, 2, 'h', 8);
        fails("knock in the part to draw", () -> x.knock(30), UNSUPPORTED);
        fails("wrong knock in the part to draw", () -> x.knock(53), ARGUMENT);
        x.draw();
        fails("knock with a card not held", () -> x.knock(0), UNSUPPORTED);
        fails("knock with too much left", () -> x.knock(15), UNSUPPORTED);
        is("no card is lost by that", x.held(0), 11);
        // 15 16 17, 23 36 52 and 35 48 52 lie open; 30 is left; 9 and 10 are laid off: 57 - 20 - 5.
        is("knock", x.knock(2), 32);
        is("part of a knock", x.part(), 'e');
        is("points of a knock", x.points(0), 32);
        is("points of the other one", x.points(1), 0);
        is("all cards stay in hands", x.held(0) + x.held(1), 20);
        is("the discard of a knock", x.pileAt(0), 2);
        is("no melds on the table", x.table(), 0);
        is("sound behind a knock", x.isSound(), true);
        fails("knock again", () -> x.knock(15), STATE);
        knocks(150, 8, 9, 9, 0);
        knocks(12, 13, 71, 71, 0);
        knocks(38189, 33, -25, 0, 25);
        knocks(46873, 10, -28, 0, 28);
        Meldhouse r = rich();
        r.deal('r', 2, 2022);
        r.draw();
        is("deadwood for a knock", r.deadwood(0), 0);
        fails("knock in r", () -> r.knock(1), UNSUPPORTED);
    }

    private static Meldhouse gin(int packs, int jokers, char order, int z) {
        Meldhouse x = new Meldhouse();
        x.packs(packs, jokers);
        x.ace(order);
        x.deal('g', 2, z);
        return x;
    }

    private static void knocks(int z, int card, int gain, int own, int others) {
        Meldhouse x = gin(1, 2, 'h', z);
        x.draw();
        is("knock of z " + z, x.knock(card), gain);
        is("points 0 of z " + z, x.points(0), own);
        is("points 1 of z " + z, x.points(1), others);
    }

    private static void claim() {
        fails("claim without a deal", () -> new Meldhouse().claim(0), STATE);
        Meldhouse g = gin(1, 0, 'l', 1);
        fails("claim in g", () -> g.claim(1), UNSUPPORTED);
        fails("claim of no player in g", () -> g.claim(2), BOUNDS);
        Meldhouse x = new Meldhouse();
        x.deal('r', 4, 99);
        fails("claim in the own turn", () -> x.claim(0), UNSUPPORTED);
        fails("claim of player 4", () -> x.claim(4), BOUNDS);
        fails("claim of player -1", () -> x.claim(-1), BOUNDS);
        is("claim of 3", x.claim(3), 1);
        is("claim of 2", x.claim(2), 2);
        fails("claim twice", () -> x.claim(2), UNSUPPORTED);
        int top = x.pileAt(0);
        int stock = x.stock();
        x.draw();
        is("the first one behind in turn gets two", x.held(2), 9);
        is("the other one gets none", x.held(3), 7);
        is("the top is got", x.hand(2, top), 1);
        is("the top is known", x.known(2, top), 1);
        is("stock of it", x.stock(), stock - 2);
        is("pile of it", x.pile(), 0);
        fails("claim in the part to play", () -> x.claim(1), UNSUPPORTED);
        x.discard(lowest(x));
        x.draw();
        is("claims are gone", x.held(3), 7);
        Meldhouse y = new Meldhouse();
        y.deal('r', 3, 5);
        y.claim(1);
        y.take(0);
        is("a taken top is not claimed", y.held(1), 7);
        y.discard(lowest(y));
        fails("claim by the next in the own turn", () -> y.claim(1), UNSUPPORTED);
        is("claims are gone by the take", y.claim(2), 1);
        y.take(0);
        y.discard(lowest(y));
        is("the top is taken each time", y.pile(), 1);
        is("sound with claims", y.isSound(), true);
    }

    private static void table() {
        Meldhouse x = new Meldhouse();
        is("table without a deal", x.table(), 0);
        fails("tabled without a deal", () -> x.tabled(0, 0), BOUNDS);
        fails("owner without a deal", () -> x.owner(0), BOUNDS);
        Meldhouse y = ended();
        is("table", y.table(), 2);
        is("tabled", tabledOf(y, 0), List.of(1, 1, 6, 32, 32));
        is("tabled 1", tabledOf(y, 1), List.of(15, 27, 28));
        fails("tabled -1", () -> y.tabled(-1, 0), BOUNDS);
        fails("tabled 2", () -> y.tabled(2, 9), BOUNDS);
        fails("tabled at -1", () -> y.tabled(0, -1), ELEMENT);
        fails("tabled at 5", () -> y.tabled(0, 5), ELEMENT);
        is("owner", y.owner(1), 0);
    }

    private static void deadwood() {
        Meldhouse x = new Meldhouse();
        fails("deadwood without a deal", () -> x.deadwood(0), BOUNDS);
        x.packs(1, 2);
        x.ace('h');
        x.deal('g', 2, 8);
        is("deadwood of the other one", x.deadwood(1), 57);
        fails("deadwood of 2", () -> x.deadwood(2), BOUNDS);
        fails("deadwood of -1", () -> x.deadwood(-1), BOUNDS);
        x.draw();
        x.knock(2);
        is("deadwood of the knocker", x.deadwood(0), 5);
        Meldhouse y = new Meldhouse();
        y.deal('c', 4, 6);
        y.claim(1);
        y.draw();
        is("eleven cards", y.held(1), 11);
        is("deadwood of eleven", y.deadwood(1) <= sumOf(y, 1), true);
        y.discard(lowest(y));
        y.draw();
        fails("deadwood of twelve", () -> y.deadwood(1), UNSUPPORTED);
        is("sound with twelve", y.isSound(), true);
    }

    private static void known() {
        Meldhouse x = new Meldhouse();
        fails("known without a deal", () -> x.known(0, 0), BOUNDS);
        x.packs(2, 0);
        int z = 0;
        x.deal('r', 2, z);
        while (x.hand(0, x.pileAt(0)) != 1) {
            for (int turn = 0; turn < 500 && x.part() != 'v'; turn++) {
                x.draw();
                if (x.part() == 'p') {
                    x.discard(lowest(x));
                }
            }
            z = nextZ(z);
            x.deal('r', 2, z);
        }
        int card = x.pileAt(0);
        x.take(0);
        is("two like cards are held", x.hand(0, card), 2);
        is("one of them is known", x.known(0, card), 1);
        is("the other one knows nothing", x.known(1, card), 0);
        x.discard(card);
        is("one like it is held", x.hand(0, card), 1);
        is("the known one went first", x.known(0, card), 0);
        x.take(0);
        is("the other one is known to have it", x.known(1, card), 1);
        fails("known of player 2", () -> x.known(2, 53), BOUNDS);
        fails("known of card 53", () -> x.known(0, 53), ARGUMENT);
        fails("known of card -1", () -> x.known(0, -1), ARGUMENT);
        x.discard(card == lowest(x) ? handOf(x, 1).get(7) : lowest(x));
        int drawn = x.draw();
        is("a drawn card is not known", x.known(0, drawn), 0);
        is("known stays", x.known(1, card), 1);
    }

    private static void pointsAndCounts() {
        Meldhouse x = new Meldhouse();
        for (int player = 0; player < 4; player++) {
            is("points at first", x.points(player), 0);
        }
        fails("points of 4", () -> x.points(4), BOUNDS);
        fails("points of -1", () -> x.points(-1), BOUNDS);
        Meldhouse y = numbered(3);
        is("points add up", y.points(0), 3 * numbered(1).points(0));
        is("deals add up", y.deals(), 3);
        is("no void deals", y.voids(), 0);
        y.deal('g', 2, 1);
        is("this deal too", y.deals(), 4);
    }

    private static void checksum() {
        Meldhouse x = new Meldhouse();
        x.packs(1, 1);
        x.deal('r', 2, 31);
        pass(x);
        long sum = 7;
        for (int card = 0; card <= 52; card++) {
            sum = sum * 31 + x.hand(0, card);
            sum = sum * 31 + x.hand(1, card);
        }
        sum = sum * 31 + x.pileAt(1);
        sum = sum * 31 + x.pileAt(0);
        List<Integer> row = rowOf(1, 1);
        shuffle(row, 31);
        for (int i = 0; i < x.stock(); i++) {
            sum = sum * 31 + row.get(i);
        }
        is("checksum", x.checksum(), sum);
    }

    private static void shares() {
        fails("share without a deal", () -> new Meldhouse().tableShare(), ARITHMETIC);
        Meldhouse x = rich();
        x.deal('r', 2, 2022);
        is("share of no card", x.tableShare(), 0.0f);
        x.draw();
        typed(x, 15, 27, 28).meld();
        is("share of three cards", x.tableShare(), 3f / 108f);
        typed(x, 1).layOff(0);
        is("share of four cards", x.tableShare(), 4f / 108f);
        fails("mean without a deal", () -> new Meldhouse().meanWorth(0), BOUNDS);
        fails("mean of player 2", () -> x.meanWorth(2), BOUNDS);
        is("mean", x.meanWorth(0), (20.0 + 7 + 7 + 7) / 4.0);
        Meldhouse y = new Meldhouse();
        y.deal('g', 2, 7);
        is("mean of the other one", y.meanWorth(1), sumOf(y, 1) / 10.0);
    }

    private static void sound() {
        is("sound at first", new Meldhouse().isSound(), true);
        Meldhouse x = ended();
        is("sound when out", x.isSound(), true);
        x.deal('r', 4, 12);
        for (int i = 0; i < 20; i++) {
            is("sound in a deal", x.isSound(), true);
            if (!x.isFrozen()) {
                x.claim((x.turn() + 2) % 4);
            }
            pass(x);
        }
    }

    public static void main(String[] args) {
        newObject();
        packs();
        ace();
        wild();
        worth();
        type();
        wipe();
        kinds();
        least();
        ways();
        melds();
        melded();
        deal();
        seen();
        rulesTakeAway();
        draw();
        drawWithoutPile();
        take();
        frozen();
        must();
        mustByLayOff();
        meld();
        contracts();
        layOff();
        discard();
        knock();
        claim();
        table();
        deadwood();
        known();
        pointsAndCounts();
        checksum();
        shares();
        sound();
        finish();
    }
}
