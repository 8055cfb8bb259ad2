import java.util.ArrayList;
import java.util.Collections;
import java.util.List;

/** The boundary cases that the sentences on deals, turns and knowledge name, each by a run of calls. */
public final class DealEdgesTest extends HouseChecks {
    /** A deal of four in 'c' leaves 15 cards in the stock, and with one pack and no joker nothing is frozen. */
    private static final String FOUR = "deal c 4 77 = 15;";

    // ---- deals

    /** "The editions are 'g' for 2 players, 10 cards each; 'r' for 2 to 4, 7 each; 'c', like 'r', with 9 each" */
    private static void players() {
        for (char edition : new char[] {'g', 'r', 'c'}) {
            int each = edition == 'g' ? 10 : edition == 'r' ? 7 : 9;
            for (int players : new int[] {Integer.MIN_VALUE, -2, -1, 0, 1, 2, 3, 4, 5, 6, 8, Integer.MAX_VALUE}) {
                String call = "deal " + edition + " " + players + " 1";
                if (players >= 2 && players <= (edition == 'g' ? 2 : 4)) {
                    int last = players - 1;
                    run("players of " + call, call + " = " + (51 - each * players) + "; pile = 1; turn = 0; part = d;"
                            + "held 0 = " + each + "; held " + last + " = " + each + "; held " + players
                            + " = !IndexOutOfBounds;"
                            + "held -1 = !IndexOutOfBounds; deals = 1; points 3 = 0; isSound = true");
                } else {
                    run("players of " + call, call + " = !IllegalArgument; part = -; deals = 0;"
                            + "held 0 = !IndexOutOfBounds");
                }
            }
        }
        run("no editions", "deal G 2 1 = !IllegalArgument; deal R 2 1 = !IllegalArgument;"
                + "deal C 2 1 = !IllegalArgument;"
                + "deal x 2 1 = !IllegalArgument; deal - 2 1 = !IllegalArgument; deals = 0");
    }

    /** "there are not cards enough for one in the stock": even the fewest cards and the most players leave 15. */
    private static void cardsEnough() {
        run("the fewest cards for the most players", "packs 1 0 = 52; deal c 4 9 = 15; stock = 15; pile = 1;"
                + "held 3 = 9");
        run("the most cards for the fewest players", "packs 2 4 = 108; deal r 2 9 = 93; stock = 93");
    }

    /** "z .. becomes z times 1103515245 plus 12345, as an int, and z without sign shifted by 16 bits, modulo n" */
    private static void drawnPlaces() {
        int below = 0;
        for (int z : new int[] {0, 1, -1, 5, 77, 65535, -65536, 123456789, Integer.MAX_VALUE, Integer.MIN_VALUE}) {
            List<Integer> row = rowOf(1, 1);
            long state = z;
            for (int k = 52; k >= 1; k--) {
                state = state * 1103515245L + 12345L & 0xffffffffL;
                below += state > Integer.MAX_VALUE ? 1 : 0;
                Collections.swap(row, k, (int) ((state >> 16) % (k + 1)));
            }
            Meldhouse x = new Meldhouse();
            x.packs(1, 1);
            x.deal('r', 3, z);
            for (int i = 0; i < 21; i++) {
                is("card " + i + " of z " + z, x.hand(i % 3, row.get(52 - i)), 1);
            }
            is("pile of z " + z, x.pileAt(0), row.get(31));
            for (int i = 0; i < 31; i++) {
                int card = x.draw();
                is("draw " + i + " of z " + z, card, row.get(30 - i));
                x.discard(card);
            }
        }
        is("many of these are below 0 as ints", below > 200, true);
    }

    /** "Player 0 begins"; "for each pack all from 0 to 51, then the jokers" */
    private static void wholeRow() {
        run("the first deal of the document", "deal r 2 5 = 37; stock = 37; held 0 = 7; draw = 2; held 0 = 8");
        for (int[] rules : new int[][] {{1, 0}, {1, 4}, {2, 0}, {2, 4}}) {
            List<Integer> row = rowOf(rules[0], rules[1]);
            shuffle(row, -5);
            Meldhouse x = new Meldhouse();
            x.packs(rules[0], rules[1]);
            x.deal('g', 2, -5);
            List<Integer> hand = new ArrayList<>();
            for (int i = 0; i < 20; i += 2) {
                hand.add(row.get(row.size() - 1 - i));
            }
            Collections.sort(hand);
            is("hand 0 of " + row.size(), handOf(x, 0), hand);
            is("pile of " + row.size(), x.pileAt(0), row.get(row.size() - 21));
            is("draw of " + row.size(), x.draw(), row.get(row.size() - 22));
        }
    }

    /** "Returns how many deals there were, this one too"; "Begins a deal; points stay." */
    private static void counts() {
        String knock = "deal g 2 825; draw; knock 15 = 28;";
        run("deals are counted", "deals = 0; deal r 2 1; deals = 1; deal r 2 1 = !IllegalState; deals = 1; voids = 0");
        run("points stay", knock + "deals = 1; points 0 = 28;" + knock + "points 0 = 56; deal c 3 1; deals = 3;"
                + "points 0 = 56; points 1 = 0; points 2 = 0; points 3 = 0");
        run("points without a deal", "points 0 = 0; points 3 = 0; points 4 = !IndexOutOfBounds;"
                + "points -1 = !IndexOutOfBounds; deal r 2 1; points 3 = 0; points 4 = !IndexOutOfBounds");
    }

    // ---- draws

    /** "To draw takes the top of the stock; if there is none, all of the pile but its top is turned", .. */
    private static void lastOfStock() {
        String toLast = FOUR + "pass;".repeat(14) + "stock = 1; pile = 15;";
        run("the last card of the stock", toLast + "draw; stock = 0; pile = 15; part = p; isSound = true");
        String out = toLast + "pass; stock = 0; pile = 16; part = d;";
        run("the pile is turned", out + "draw; stock = 14; pile = 1; part = p; voids = 0; isSound = true");
        run("its top stays", "deal c 4 77; passes 14; draw = 44; discard 44 = 3; pileAt 0 = 44; draw; pile = 1;"
                + "pileAt 0 = 44");
        run("it is not turned by a look or a take", out + "take 0 = 1; stock = 0; pile = 15; discard 44 = 0;"
                + "stock = 0; draw; stock = 14");
    }

    /** "shuffled as above, z going on from where it was, the card at the bottom of the pile being the first" */
    private static void turnedRow() {
        List<Integer> row = rowOf(1, 0);
        int z = shuffle(row, -4321);
        Meldhouse x = new Meldhouse();
        x.deal('c', 4, -4321);
        List<Integer> pile = new ArrayList<>(row.subList(0, 16));
        Collections.reverse(pile);
        is("the bottom of the pile", x.pileAt(0), pile.get(0));
        for (int i = 0; i < 15; i++) {
            x.discard(x.draw());
        }
        int top = pile.remove(15);
        shuffle(pile, z);
        for (int i = 14; i >= 0; i--) {
            int card = x.draw();
            is("turned card " + i, card, pile.get(i));
            is("the top that stayed " + i, x.pileAt(x.pile() - 1), top);
            x.discard(card);
        }
    }

    /** "once in a deal; if there is none then, the deal is over, void" */
    private static void once() {
        String twice = FOUR + "passes 15; stock = 0; passes 15; stock = 0; pile = 16; part = d; voids = 0; turn = 2;";
        run("not turned twice", twice + "draw = -1; part = v; voids = 1; pile = 16; stock = 0; held 2 = 9;"
                + "turn = !IllegalState;"
                + "draw = !IllegalState; must = !IllegalState; isSound = true; points 0 = 0; points 2 = 0");
        run("a take is no draw", twice + "take 0 = 1; part = p; shed = 3; part = d; draw = -1; part = v");
        run("once again in the next deal", twice + "draw = -1; deal c 4 77 = 15; deals = 2; voids = 1; part = d;"
                + "passes 15; stock = 0; draw; stock = 14; pile = 1; voids = 1; part = p");
    }

    /** A pile of one card: nothing is left to be turned. */
    private static void pileOfOne() {
        StringBuilder calls = new StringBuilder("deal c 4 3 = 15;");
        for (int i = 0; i < 7; i++) {
            int next = (i + 1) % 4;
            calls.append("claim ").append(next).append(" = 1; draw; pile = 0; shed = ").append(next).append(";");
        }
        calls.append("stock = 1; pile = 1; turn = 3;");
        String two = calls + "pass = 0; stock = 0; pile = 2;";
        run("a pile of two is turned", two + "draw; stock = 0; pile = 1; part = p; voids = 0");
        run("a claim of the top of two behind a turned pile", two + "claim 1 = 1; held 1 = 13; draw; stock = 0;"
                + "pile = 0; held 1 = 14; isSound = true");
        String one = calls + "claim 0 = 1; held 0 = 11; draw; stock = 0; pile = 0; held 0 = 12; shed = 0; stock = 0;"
                + "pile = 1;";
        run("a pile of one is void", one + "draw = -1; part = v; voids = 1; pile = 1; held 0 = 12; isSound = true");
        run("a claim of a pile of one in a void deal", one + "claim 1 = 1; held 1 = 13; draw = -1; part = v;"
                + "held 1 = 13; pile = 1; deal c 4 3; claim 1 = 1; claim 2 = 2");
    }

    // ---- takes

    /** "To take takes the top of the pile, or, in 'r' and 'c', all down to a card" */
    private static void takes() {
        for (char edition : new char[] {'r', 'c'}) {
            String three = "deal " + edition + " 2 30; passes 2; pile = 3; turn = 0;";
            int held = edition == 'r' ? 7 : 9;
            run("the top in " + edition, three + "take 0 = 1; pile = 2; held 0 = " + (held + 1) + ";"
                    + "must = !NoSuchElement; part = p");
            run("below it in " + edition, three + "take 1 = 2; pile = 1; held 0 = " + (held + 2) + "; part = p");
            run("the deepest in " + edition, three + "take 2 = 3; pile = 0; held 0 = " + (held + 3) + "; part = p;"
                    + "isSound = true");
            run("too deep in " + edition, three + "take 3 = !NoSuchElement; take 2147483647 = !NoSuchElement;"
                    + "take -1 = !NoSuchElement; take -2147483648 = !NoSuchElement; part = d; pile = 3; take 2 = 3");
            run("but once in " + edition, three + "take 0 = 1; take 0 = !Unsupported; draw = !Unsupported;"
                    + "take 9 = !Unsupported");
        }
        run("the only card", "deal r 2 30; take 1 = !NoSuchElement; take 0 = 1; pile = 0; must = !NoSuchElement;"
                + "isFrozen = false; pileAt 0 = !NoSuchElement; isSound = true");
        run("in 'g' but the top", "deal g 2 30; passes 2; take 1 = !Unsupported; take 2 = !Unsupported;"
                + "take 3 = !Unsupported;"
                + "take 2147483647 = !Unsupported; take -1 = !NoSuchElement; take 0 = 1; pile = 2");
        run("in 'g' the top may go again", "deal g 2 825; pileAt 0 = 12; take 0 = 1; must = !NoSuchElement;"
                + "discard 12 = 1; pileAt 0 = 12");
        run("the top binds nobody", "packs 2 4; deal r 2 30; pileAt 0 = 6; take 0 = 1; must = !NoSuchElement;"
                + "discard 6 = 1; pileAt 0 = 6");
        run("which card lies where", "packs 2 4; deal r 2 30; draw = 37; discard 37; pileAt 0 = 37; pileAt 1 = 6;"
                + "pileAt 2 = !NoSuchElement; pileAt -1 = !NoSuchElement; take 1 = 2; must = 6; hand 1 6 = 1;"
                + "hand 1 37 = 1");
    }

    /** "which must be melded or laid off in this turn then, it or a card like it, ahead of the discard" */
    private static void bound() {
        String deep = "packs 2 4; deal r 2 30; pass; cards 1 = 17 19 21 30 31 32 32; take 1 = 2; must = 6;";
        run("a bound player discards nothing", deep + "discard 6 = !Unsupported; discard 37 = !Unsupported;"
                + "discard 17 = !Unsupported; must = 6; part = p; turn = 1; held 1 = 9");
        run("another meld frees nobody", deep + "put 30 31 32 = 0; must = 6; discard 17 = !Unsupported;"
                + "put 6 19 32 = 1; must = !NoSuchElement; discard 17 = 0");
        run("the meld of the card frees", deep + "put 6 19 32 = 0; must = !NoSuchElement; discard 37 = 0; part = d;"
                + "isSound = true");
        run("the next player is free", deep + "put 6 19 32; discard 37; must = !NoSuchElement; draw;"
                + "must = !NoSuchElement");
        String like = "packs 2 4; deal r 2 604; pass; hand 1 17 = 1; take 1 = 2; must = 17; hand 1 17 = 2;";
        run("a card like it frees", like + "put 17 18 52 = 0; hand 1 17 = 1; must = !NoSuchElement; discard 17 = 0");
        run("and not another one", like + "put 3 29 52 = 0; must = 17; discard 17 = !Unsupported;"
                + "discard 22 = !Unsupported");
        run("a lay-off of the card frees", "packs 1 2; ace h; deal r 2 45; passes 36; take 36 = 37; must = 27;"
                + "put 28 29 30 = 0;"
                + "must = 27; discard 0 = !Unsupported; lay 0 31 = 4; must = 27; lay 0 27 = 5; must = !NoSuchElement;"
                + "discard 0 = 1");
        run("the last card is bound", "packs 2 4; deal r 2 609; pass; take 1 = 2; must = 0;"
                + "put 41 43 44 45 46 47 48 52 = 0;"
                + "held 1 = 1; cards 1 = 0; discard 0 = !Unsupported; must = 0; held 1 = 1; part = p");
    }

    /** "A pile is frozen while a wild card lies anywhere in it: nothing is taken from it." */
    private static void frozen() {
        String joker = "packs 1 4; deal r 2 1; draw; discard 52 = 1; isFrozen = true;";
        run("a joker on top", joker + "take 0 = !Unsupported; take 1 = !Unsupported; take 2 = !Unsupported;"
                + "take -1 = !Unsupported; claim 0 = !Unsupported; part = d; pile = 2; draw; part = p");
        run("a joker below the top", joker + "draw; discard 22 = 0; isFrozen = true; pileAt 0 = 22;"
                + "take 0 = !Unsupported; claim 1 = !Unsupported; draw");
        run("a joker at first", "packs 1 4; deal r 2 29; pileAt 0 = 52; isFrozen = true; take 0 = !Unsupported;"
                + "claim 1 = !Unsupported; pass; isFrozen = true; take 1 = !Unsupported");
        run("a two that is wild", "wild true false 2; deal r 2 4; pileAt 0 = 27; isFrozen = true;"
                + "take 0 = !Unsupported; claim 1 = !Unsupported");
        run("a two that is not", "deal r 2 4; pileAt 0 = 27; isFrozen = false; claim 1 = 1; take 0 = 1");
        run("in 'g' too", "wild true false 0; deal g 2 5; draw; discard 14 = 1; isFrozen = true;"
                + "take 0 = !Unsupported; draw");
        String buried = "packs 1 1; deal c 4 2; passes 11; isFrozen = false; passes 1; isFrozen = true; passes 4;"
                + "isFrozen = true; stock = 0;";
        run("a joker that is turned with the pile", buried + "draw; pile = 1; isFrozen = false; isSound = true");
        run("a joker above the bottom that is turned", "packs 1 4; deal r 2 1; draw; discard 52; passes 40; stock = 0;"
                + "pileAt 0 = 13; pileAt 40 = 52; isFrozen = true; draw; pile = 1; isFrozen = false");
        run("a joker that stays as the top", "packs 1 1; deal c 4 213; passes 16; pileAt 0 = 52; isFrozen = true;"
                + "stock = 0; draw; pile = 1; pileAt 0 = 52; isFrozen = true");
        run("no pile", "isFrozen = false; deal r 2 5; take 0; pile = 0; isFrozen = false");
    }

    // ---- claims

    /** "while the player whose turn it is has not drawn, others can claim the top of the pile, if it is not frozen" */
    private static void claims() {
        run("who can claim", "deal c 4 99; claim 0 = !Unsupported; claim 4 = !IndexOutOfBounds;"
                + "claim -1 = !IndexOutOfBounds;"
                + "claim 3 = 1; claim 3 = !Unsupported; claim 1 = 2; claim 2 = 3; claim 2 = !Unsupported;"
                + "claim 1 = !Unsupported");
        run("not behind the draw", "deal c 4 99; draw; claim 1 = !Unsupported; claim 0 = !Unsupported;"
                + "claim 4 = !IndexOutOfBounds");
        run("not behind the take", "deal c 4 99; passes 2; take 0; pile = 2; claim 1 = !Unsupported");
        run("of two players", "deal r 2 5; claim 1 = 1; claim 0 = !Unsupported; claim 2 = !IndexOutOfBounds; draw;"
                + "held 1 = 9");
        run("not in 'g'", "deal g 2 5; claim 1 = !Unsupported; claim 0 = !Unsupported; claim 2 = !IndexOutOfBounds");
    }

    /** "the first one behind in turn who claimed gets, behind the draw, the top of the pile, and then a card" */
    private static void served() {
        String[][] claimed = {{"1", "1"}, {"3 2", "2"}, {"2 3 1", "1"}, {"3", "3"}};
        for (String[] pair : claimed) {
            firstBehind(0, pair[0], Integer.parseInt(pair[1]));
        }
        firstBehind(2, "1 0", 0);
        firstBehind(2, "1 0 3", 3);
        firstBehind(2, "1", 1);
        firstBehind(3, "2 1", 1);
        firstBehind(3, "2 1 0", 0);
        firstBehind(1, "0 3", 3);
        Meldhouse x = new Meldhouse();
        x.deal('c', 4, 99);
        List<Integer> row = rowOf(1, 0);
        shuffle(row, 99);
        int top = x.pileAt(0);
        x.claim(2);
        is("the draw is ahead of the claim", x.draw(), row.get(14));
        is("the top is got", x.hand(2, top), 1);
        is("and the next card of the stock", x.hand(2, row.get(13)), 1);
        is("no more is got", x.held(2), 11);
    }

    private static void firstBehind(int turn, String claimers, int first) {
        StringBuilder calls = new StringBuilder("deal c 4 99; passes " + turn + "; turn = " + turn + "; pile = "
                + (turn + 1) + ";");
        for (String player : claimers.split(" ")) {
            calls.append("claim ").append(player).append(";");
        }
        calls.append("draw; pile = ").append(turn).append("; stock = ").append(13 - turn).append(";");
        for (int player = 0; player < 4; player++) {
            int held = player == turn ? 10 : player == first ? 11 : 9;
            calls.append("held ").append(player).append(" = ").append(held).append(";");
        }
        run("first behind " + turn + " of " + claimers, calls + "isSound = true");
    }

    /** "if there is one"; "the pile being turned ahead of that if need be" */
    private static void servedFromLittle() {
        run("a claimed top and the last card", FOUR + "passes 13; stock = 2; claim 3 = 1; draw; held 3 = 11;"
                + "stock = 0; pile = 13; isSound = true");
        run("a claimed top behind which the stock is empty", FOUR + "passes 14; stock = 1; turn = 2; claim 3 = 1;"
                + "draw; held 3 = 10; held 2 = 10; stock = 0; pile = 14; isSound = true");
        run("the pile is turned ahead of it", FOUR + "passes 15; stock = 0; pile = 16; turn = 3; pileAt 0 = 44;"
                + "claim 0 = 1; draw;"
                + "held 0 = 11; hand 0 44 = 1; known 0 44 = 1; stock = 13; pile = 0; isSound = true");
    }

    /** "if the top is taken, or the deal is void, nobody does. Claims are gone then." */
    private static void claimsGone() {
        run("the top is taken", "deal c 4 99; claim 1; claim 2; take 0 = 1; held 1 = 9; held 2 = 9; pile = 0");
        run("claims are gone by a take", "deal r 3 8; passes 3; claim 2 = 1; take 0; shed = 1; claim 2 = 1;"
                + "held 2 = 7");
        run("claims are gone by a draw", "deal c 4 99; claim 3 = 1; claim 2 = 2; draw = 41; held 2 = 11; held 3 = 9;"
                + "discard 41 = 1; claim 3 = 1; claim 2 = 2; draw; held 2 = 13; held 3 = 9");
        run("nobody who has not claimed again", "deal c 4 99; claim 3; claim 2; draw; discard 41; draw; held 2 = 11;"
                + "held 3 = 9; pile = 1");
        run("void", FOUR + "passes 30; stock = 0; claim 0 = 1; claim 1 = 2; draw = -1; part = v; held 0 = 9;"
                + "held 1 = 9; pile = 16;"
                + "claim 3 = !IllegalState; deal c 4 77; claim 1 = 1; claim 2 = 2; claim 3 = 3");
        run("a refused take keeps the claims", "deal c 4 99; claim 2 = 1; take 1 = !NoSuchElement; claim 1 = 2; draw;"
                + "held 1 = 11; held 2 = 9");
    }

    // ---- knowledge

    /** "All know of a player the cards that were taken from the pile, the claimed top too" */
    private static void known() {
        run("a taken top", "deal r 2 30; passes 2; pile = 3; take 0; known 0 30 = 1; known 1 30 = 0; known 0 36 = 0;"
                + "known 0 0 = 0; hand 0 0 = 1");
        run("all that are taken", "packs 2 4; deal r 2 30; known 0 6 = 0; pass; take 1; known 1 6 = 1; known 1 37 = 1;"
                + "known 1 17 = 0; known 0 6 = 0; known 0 37 = 0");
        run("no drawn card", "packs 2 4; deal r 2 30; draw = 37; known 0 37 = 0; hand 0 37 = 2");
        Meldhouse x = new Meldhouse();
        x.deal('c', 4, 99);
        List<Integer> row = rowOf(1, 0);
        shuffle(row, 99);
        int top = x.pileAt(0);
        x.claim(1);
        x.draw();
        is("the claimed top", x.known(1, top), 1);
        is("not the card of the stock", x.known(1, row.get(13)), 0);
        is("which is held", x.hand(1, row.get(13)), 1);
        is("not of others", x.known(0, top) + x.known(2, top) + x.known(3, top), 0);
    }

    /** "till one like these leaves the hand: the known ones go first" */
    private static void knownFirst() {
        String like = "packs 2 4; deal r 2 604; pass; take 1 = 2; hand 1 17 = 2; known 1 17 = 1; known 1 29 = 1;";
        run("by a meld", like + "put 17 18 52; hand 1 17 = 1; known 1 17 = 0; known 1 29 = 1; isSound = true");
        run("by the discard", like + "put 17 18 52; discard 29 = 0; known 1 29 = 0; hand 1 29 = 0; isSound = true");
        run("not by another card", like + "put 17 18 52; discard 22 = 0; known 1 29 = 1; known 1 17 = 0");
        run("by a discard of one of two", "packs 2 4; deal r 2 12; pileAt 0 = 25; hand 0 25 = 1; take 0; hand 0 25 = 2;"
                + "known 0 25 = 1; discard 25 = 1; hand 0 25 = 1; known 0 25 = 0; isSound = true");
        run("by cards laid off", "packs 1 2; ace h; deal r 2 45; passes 36; take 36 = 37; must = 27; known 0 27 = 1;"
                + "put 28 29 30; lay 0 27; hand 0 27 = 0; known 0 27 = 0; isSound = true");
        run("not by the turn", "deal g 2 825; take 0 = 1; known 0 12 = 1; discard 44; known 0 12 = 1; draw;"
                + "known 0 12 = 1; known 1 12 = 0");
        String knock = "deal g 2 291; take 0 = 1; known 0 30 = 1; knock 48 = 45;";
        run("not by the end, nor by melds that lie open", knock + "part = e; known 0 30 = 1; hand 0 30 = 1;"
                + "isSound = true");
        run("by the discard of a knock", "deal g 2 1208; take 0 = 1; known 0 0 = 1; knock 0 = 44; known 0 0 = 0;"
                + "pileAt 0 = 0; hand 0 0 = 0");
        run("a new deal knows nothing", knock + "deal g 2 291; known 0 30 = 0; take 0 = 1; known 0 30 = 1");
    }

    // ---- rules

    /** "Rules that are set take a deal that is over away." */
    private static void rulesSet() {
        String over = "packs 1 2; deal r 3 224; draw; put 3 4 6 7 52; put 46 48 52; part = e; points 0 = 93;";
        String gone = "part = -; stock = 0; pile = 0; table = 0; held 0 = !IndexOutOfBounds;"
                + "hand 0 0 = !IndexOutOfBounds;"
                + "known 0 0 = !IndexOutOfBounds; deadwood 0 = !IndexOutOfBounds; meanWorth 0 = !IndexOutOfBounds;"
                + "tabled 0 0 = !IndexOutOfBounds; owner 0 = !IndexOutOfBounds; turn = !IllegalState;"
                + "must = !IllegalState;"
                + "pileAt 0 = !NoSuchElement; isFrozen = false; checksum = 7; tableShare = !Arithmetic;"
                + "isSound = true; deals = 1;"
                + "draw = !IllegalState; claim 0 = !IllegalState; meld = !IllegalState; layOff 0 = !IllegalState;";
        for (String rule : new String[] {"packs 1 2 = 54", "packs 2 0 = 104", "ace l = l", "ace r = l",
                "wild false false 2 = 2",
                "wild true true 0 = 2"}) {
            run("taken away by " + rule, over + rule + ";" + gone + "points 0 = 93; voids = 0");
            run("a void one by " + rule, "packs 1 2; deal c 4 2;" + "passes 34; draw = -1; part = v;" + rule + ";"
                    + gone + "voids = 1");
        }
        for (String wrong : new String[] {"packs 0 2", "packs 1 5", "ace x", "wild false false 5",
                "wild true true -1"}) {
            run("not by " + wrong, over + wrong + " = !IllegalArgument; part = e; table = 2; held 1 = 7;"
                    + "points 0 = 93");
        }
        for (String good : new String[] {"packs 1 2", "ace l", "wild false false 2"}) {
            run("a deal goes on with " + good, "packs 1 2; deal r 3 224;" + good + " = !IllegalState; part = d; draw;"
                    + good
                    + " = !IllegalState; part = p; table = 0; held 0 = 8");
        }
        run("what is over is asked", over + "held 1 = 7; held 2 = 7; table = 2; row 0 = 3 4 6 7 52; owner 1 = 0;"
                + "stock = 31; pile = 1;"
                + "pileAt 0 = 19; deadwood 0 = 0; meanWorth 0 = !Arithmetic; tableShare = " + 8f / 54f + ";"
                + "isSound = true");
        run("a deal behind one that is over", over + "deal r 2 1; part = d; table = 0; must = !NoSuchElement;"
                + "points 0 = 93; deals = 2; held 2 = !IndexOutOfBounds; held 1 = 7");
    }

    public static void main(String[] args) {
        players();
        cardsEnough();
        drawnPlaces();
        wholeRow();
        counts();
        lastOfStock();
        turnedRow();
        once();
        pileOfOne();
        takes();
        bound();
        frozen();
        claims();
        served();
        servedFromLittle();
        claimsGone();
        known();
        knownFirst();
        rulesSet();
        finish();
    }
}
