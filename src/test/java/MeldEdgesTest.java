/** The boundary cases that the sentences on cards, melds and hands name, each by a run of calls. */
public final class MeldEdgesTest extends HouseChecks {

    // ---- cards

    /** "A card is a number: 13 times the suit, 0 to 3, plus the rank, 0 the ace to 12 the king; 52 is a joker." */
    private static void cards() {
        run("the first and the last card", "worth 0 = 1; worth 51 = 10; worth 52 = 20; type 0 = 1; type 52 = 2");
        for (String wrong : new String[] {"-1", "53", "2147483647", "-2147483648"}) {
            run("no card " + wrong, "worth " + wrong + " = !IllegalArgument; type " + wrong + " = !IllegalArgument;"
                    + "wipe = 0; deal r 2 5; draw; hand 0 " + wrong + " = !IllegalArgument;"
                    + "known 0 " + wrong + " = !IllegalArgument; discard " + wrong + " = !IllegalArgument;"
                    + "knock " + wrong + " = !IllegalArgument");
        }
    }

    /** "There are 1 or 2 packs, 1 at first, and 0 to 4 jokers in all, 0 at first." */
    private static void packs() {
        run("1 pack at first and no joker", "deal r 2 5 = 37");
        for (int packs = 0; packs <= 3; packs++) {
            for (int jokers = -1; jokers <= 5; jokers++) {
                boolean isGood = packs >= 1 && packs <= 2 && jokers >= 0 && jokers <= 4;
                int all = 52 * packs + jokers;
                run("packs and jokers", "packs " + packs + " " + jokers + " = "
                        + (isGood ? all + "; deal r 2 5 = " + (all - 15) : "!IllegalArgument; deal r 2 5 = 37"));
            }
        }
        run("the last good ones stay", "packs 2 4 = 108; packs 3 4 = !IllegalArgument; packs 2 5 = !IllegalArgument;"
                + "packs 0 0 = !IllegalArgument; packs 1 -1 = !IllegalArgument; deal g 2 1 = 87");
        run("fewer again", "packs 2 4 = 108; packs 1 0 = 52; deal g 2 1 = 31");
    }

    /** "Jokers are wild; twos, the rank 1, are wild if that is told, not at first." */
    private static void wildTwos() {
        for (int two = 1; two < 52; two += 13) {
            run("the two " + two, "kindOf 3 16 " + two + " = -; wild true false 2; kindOf 3 16 " + two + " = s;"
                    + "wild false false 2; kindOf 3 16 " + two + " = -");
        }
        run("a three and an ace are not wild then", "wild true false 2; kindOf 3 16 0 = -; kindOf 3 16 2 = -");
        run("a joker is wild from the first", "kindOf 3 16 52 = s; wild true false 2; kindOf 3 16 52 = s");
    }

    /** "A wild card is worth 20, another one its rank and 1, at most 10." */
    private static void worths() {
        for (int card = 0; card < 52; card++) {
            int rank = card % 13;
            int worth = rank < 9 ? rank + 1 : 10;
            run("worth of " + card, "worth " + card + " = " + worth + "; wild true false 0; worth " + card + " = "
                    + (rank == 1 ? 20 : worth) + "; wild false false 0; worth " + card + " = " + worth);
        }
        run("worth of a joker", "worth 52 = 20; wild true true 4; worth 52 = 20");
    }

    // ---- melds

    /** "A meld has 3 cards or more, 2 at least that are not wild" */
    private static void fewCards() {
        run("less than 3 cards", "kind = -; kindOf 3 = -; kindOf 52 = -; kindOf 3 16 = -; kindOf 3 4 = -;"
                + "kindOf 3 52 = -");
        run("3 cards", "kindOf 3 16 29 = s; kindOf 3 4 5 = r; kindOf 3 16 52 = s; kindOf 3 4 52 = r");
        run("1 that is not wild", "wild false true 4; kindOf 3 52 52 = -; kindOf 3 52 52 52 = -;"
                + "kindOf 3 52 52 52 52 = -");
        run("none that is not wild", "wild true true 4; kindOf 52 52 52 = -; kindOf 1 14 27 = -; kindOf 1 2 3 = r;"
                + "kindOf 1 14 2 = -; kindOf 52 1 14 27 = -");
        run("2 that are not wild", "wild false true 4; kindOf 3 16 52 52 = s; kindOf 3 16 52 52 52 52 = s;"
                + "kindOf 3 4 52 52 = r; kindOf 3 4 52 52 52 52 = r");
    }

    /** "not more wild ones than the limit, 0 to 4, 2 at first" */
    private static void limits() {
        run("2 at first", "kindOf 3 16 52 52 = s; wild false false 2 = 2");
        run("3 are too many at first", "kindOf 3 4 52 52 52 = -; wild false true 2; kindOf 3 16 52 52 52 = -");
        for (int limit = 0; limit <= 4; limit++) {
            for (int jokers = 1; jokers <= 5; jokers++) {
                String more = " 52".repeat(jokers);
                run(jokers + " jokers by the limit " + limit, "wild false true " + limit
                        + "; kindOf 3 16" + more + (jokers <= limit ? " = s" : " = -")
                        + "; kindOf 3 4" + more + (jokers <= limit ? " = r" : " = -")
                        + "; least = " + (jokers <= limit ? 0 : leastAbove(limit, jokers)));
            }
        }
        run("twos and jokers together", "wild true true 2; kindOf 3 16 52 1 = s; kindOf 3 16 52 1 14 = -;"
                + "kindOf 3 16 1 1 = s");
        run("the limits that there are", "wild false false 0 = 2; wild false false 4 = 0;"
                + "wild false false -1 = !IllegalArgument;"
                + "wild false false 5 = !IllegalArgument; wild false false 1 = 4");
        run("a wrong limit sets nothing", "wild true true 5 = !IllegalArgument; worth 1 = 2; kindOf 3 3 3 = -;"
                + "kindOf 3 16 52 52 = s");
    }

    /** Of 3, 4 and jokers, with no limit all is left, else as many jokers as are above it. */
    private static int leastAbove(int limit, int jokers) {
        return limit == 0 ? 4 + 5 + 20 * jokers : 20 * (jokers - limit);
    }

    /** "It is a set if all that are not wild have one rank, and either sets are tight .. at most 4 cards" */
    private static void tightSets() {
        run("a set of 4", "kindOf 3 16 29 42 = s; kindOf 12 25 38 51 = s");
        run("not one rank", "kindOf 3 16 30 = -; kindOf 3 17 31 = -; kindOf 3 16 29 43 = -; kindOf 0 13 25 = -");
        run("not unlike suits", "kindOf 3 3 16 = -; kindOf 3 3 3 = -; kindOf 3 16 29 3 = -; kindOf 3 3 52 = -");
        run("at most 4 with wild ones", "kindOf 3 16 29 52 = s; kindOf 3 16 52 52 = s; kindOf 3 16 29 42 52 = -;"
                + "kindOf 3 16 29 52 52 = -");
        run("tight at first, and again", "kindOf 3 3 16 = -; wild false true 2; kindOf 3 3 16 = s; wild false false 2;"
                + "kindOf 3 3 16 = -");
    }

    /** "or sets are loose, and it has at most 8" */
    private static void looseSets() {
        run("8 cards", "wild false true 2; kindOf 3 3 16 16 29 29 42 42 = s; kindOf 3 3 3 3 3 3 3 3 = s;"
                + "kindOf 3 3 16 16 29 29 52 52 = s");
        run("9 cards", "wild false true 2; kindOf 3 3 16 16 29 29 42 42 3 = -; kindOf 3 3 16 16 29 29 42 42 52 = -;"
                + "kindOf 3 3 16 16 29 29 42 52 52 = -");
        run("9 to 13 cards", "wild false true 4; kindOf 3 3 3 3 3 3 3 3 3 3 3 3 3 = -;"
                + "kindOf 3 3 3 3 3 52 52 52 52 = -");
        run("5 cards", "wild false true 2; kindOf 3 16 29 42 52 = s; kindOf 3 3 16 29 42 = s; kindOf 3 3 16 29 43 = -");
    }

    /** "It is a run if all that are not wild have one suit and unlike ranks, it has at most 13 cards, .." */
    private static void runs() {
        run("13 cards", "kindOf 0 1 2 3 4 5 6 7 8 9 10 11 12 = r; kindOf 51 50 49 48 47 46 45 44 43 42 41 40 39 = r;"
                + "kindOf 0 1 2 3 52 5 6 7 8 9 10 11 52 = r; ace h; kind = r; ace r; kind = r");
        run("13 cards with a rank twice", "kindOf 0 1 2 3 4 5 6 7 8 9 10 11 11 = -");
        run("13 cards of two suits", "kindOf 0 1 2 3 4 5 6 7 8 9 10 11 25 = -");
        run("two suits", "kindOf 3 4 18 = -; kindOf 12 13 14 = -; kindOf 3 17 31 = -");
        run("like ranks", "kindOf 3 4 4 5 = -; kindOf 3 3 4 = -; kindOf 3 3 5 52 = -; wild false true 4;"
                + "kindOf 3 3 4 52 = -");
        run("so many ranks that follow each other", "kindOf 3 5 6 = -; kindOf 3 4 6 = -; kindOf 3 5 52 = r;"
                + "kindOf 3 6 52 = -;"
                + "kindOf 3 6 52 52 = r; kindOf 3 7 52 52 = -; wild false false 3; kindOf 3 7 52 52 52 = r;"
                + "kindOf 3 8 52 52 52 = -");
        run("a wild one at an end", "kindOf 0 1 52 = r; kindOf 11 12 52 = r; kindOf 11 12 52 52 = r;"
                + "kindOf 0 1 52 52 = r");
        run("the least and the most rank", "wild false false 4; kindOf 0 12 52 52 52 52 = -;"
                + "kindOf 1 6 52 52 52 52 = r; kindOf 1 7 52 52 52 52 = -");
        run("wild twos in a run", "wild true false 2; kindOf 0 1 2 = r; kindOf 3 27 5 = r; kindOf 14 1 2 3 = r;"
                + "kindOf 2 3 1 52 14 = -; wild true false 0; kindOf 0 1 2 = -; kindOf 2 3 4 = r");
    }

    /** "the ace is below the two, and, if the order is 'h', it can be above the king instead; if it is 'r', .." */
    private static void aces() {
        run("'l' at first", "ace l = l");
        run("'l'", "kindOf 0 1 2 = r; kindOf 0 2 52 = r; kindOf 10 11 12 = r; kindOf 11 12 0 = -; kindOf 12 0 52 = -;"
                + "kindOf 12 0 1 = -; kindOf 50 51 39 = -; kindOf 0 12 52 52 = -");
        run("'h'", "ace h = l; kindOf 0 1 2 = r; kindOf 11 12 0 = r; kindOf 12 0 52 = r; kindOf 11 0 52 = r;"
                + "kindOf 12 0 1 = -; kindOf 12 0 1 52 = -; kindOf 11 12 0 1 = -; kindOf 50 51 39 = r;"
                + "kindOf 12 1 52 = -");
        run("'r'", "ace r = l; kindOf 0 1 2 = r; kindOf 11 12 0 = r; kindOf 12 0 1 = r; kindOf 12 1 52 = r;"
                + "kindOf 10 1 52 52 = -; kindOf 11 1 52 52 = r; kindOf 11 12 0 1 2 = r; kindOf 51 39 40 = r;"
                + "kindOf 51 0 1 = -; kindOf 10 12 1 = -");
        run("12 and 13 cards round", "ace r; kindOf 7 8 9 10 11 12 0 1 2 3 4 5 = r;"
                + "kindOf 7 8 9 10 11 12 0 1 2 3 4 5 6 = r;"
                + "ace h; kindOf 7 8 9 10 11 12 0 1 2 3 4 5 = -; kindOf 1 2 3 4 5 6 7 8 9 10 11 12 0 = r;"
                + "kindOf 2 3 4 5 6 7 8 9 10 11 12 0 = r; ace l; kindOf 2 3 4 5 6 7 8 9 10 11 12 0 = -");
        run("no order", "ace x = !IllegalArgument; ace H = !IllegalArgument; ace - = !IllegalArgument; ace h = l;"
                + "ace y = !IllegalArgument; kindOf 11 12 0 = r; ace l = h");
        run("the ace is worth 1 above the king too", "ace h; worth 0 = 1; types 11 12; least = 20; types 0; least = 1");
    }

    // ---- hands

    /** "A way of a hand of at most 11 cards"; "Throws IllegalStateException if there are 13" */
    private static void manyCards() {
        String eleven = "types 0 1 2 3 16 29 42 20 21 22 23";
        run("11 cards", eleven + "; least = 0; ways = 2; melds = 3; way = 0 1 2 | 3 16 29 42 | 20 21 22 23");
        run("12 cards", eleven + " 24; least = !Unsupported; ways = !Unsupported; melds = !Unsupported;"
                + "melded 0 0 = !Unsupported; melded -1 0 = !Unsupported; kind = -; type 25 = 13");
        run("13 cards", eleven + " 24 25; type 26 = !IllegalState; type 52 = !IllegalState; type 53 = !IllegalArgument;"
                + "least = !Unsupported; ways = !Unsupported; melds = !Unsupported; melded 9 9 = !Unsupported;"
                + "wipe = 13; wipe = 0");
        run("11 again", eleven + "; type 5 = 12; least = !Unsupported; wipe = 12; " + eleven + "; least = 0");
        run("no card", "least = 0; ways = 1; melds = 0; melded 0 0 = !NoSuchElement; wipe = 0");
        run("one card", "type 7 = 1; least = 8; ways = 1; melds = 0; melded 0 0 = !NoSuchElement");
        run("cards like which there are none in the packs", "packs 1 0; type 5 = 1; type 5 = 2; type 5 = 3;"
                + "type 52 = 4; type 52 = 5; type 52 = 6; type 52 = 7; type 52 = 8; type 52 = 9; wipe = 9");
    }

    /** "Its deadwood is what the others are worth. The least deadwood is that of the best ways." */
    private static void deadwoods() {
        run("nothing melded", "types 0 17 32 51 52; least = 43; ways = 1; melds = 0");
        run("one card for two melds", "types 2 3 4 17 30; least = 7; ways = 1; way = 4 17 30");
        run("the longer run is not the better one", "types 2 3 4 5 18 31; least = 0; way = 2 3 4 | 5 18 31");
        run("a joker where most is melded by it", "types 3 4 11 24 52; least = 9; way = 11 24 52");
        run("a joker left over the limit", "wild false false 0; types 3 4 5 52; least = 20; ways = 1; way = 3 4 5");
        run("wild twos", "wild true false 2; types 1 14 0; least = 41; types 1 0 13; least = 0; way = 0 1 13");
        run("a tight set and its fifth", "types 3 16 29 42 52; least = 4; ways = 4; way = 3 16 29 52");
    }

    /** "Two ways are unlike if their melds are, told by their cards, like cards not told apart." */
    private static void unlikeWays() {
        run("like cards in a set", "types 3 3 16 29; least = 4; ways = 1; way = 3 16 29");
        run("like cards in a run", "types 3 3 4 5 5; least = 10; ways = 1; way = 3 4 5");
        run("two like melds", "types 3 3 16 16 29 29; least = 0; ways = 1; way = 3 16 29 | 3 16 29");
        run("two like runs", "types 7 7 8 8 9 9; least = 0; ways = 1; way = 7 8 9 | 7 8 9");
        run("like cards in loose sets", "wild false true 2; types 3 3 16 16 29 29; ways = 5; way = 3 3 16 | 16 29 29");
        run("like jokers", "types 3 16 7 20 52 52; least = 0; ways = 1; way = 3 16 52 | 7 20 52");
        run("like jokers in runs", "types 3 4 17 18 52 52 52; least = 0; ways = 2");
        run("one loose set or two", "wild false true 2; types 3 3 3 3 3 3; ways = 2; way = 3 3 3 | 3 3 3");
        run("one loose set alone", "wild false true 2; types 3 3 3 3 3; ways = 1; way = 3 3 3 3 3");
        run("11 like cards", "wild false true 2; types 0 0 0 0 0 0 0 0 0 0 0; least = 0; ways = 5;"
                + "way = 0 0 0 | 0 0 0 | 0 0 0 0 0");
    }

    /** "Melds are told by their cards, rising; rows of numbers are compared number by number, a shorter one ahead" */
    private static void orders() {
        run("rising", "types 52 29 3 16; way = 3 16 29 52; melded 0 0 = 3; melded 0 3 = 52;"
                + "melded 0 4 = !NoSuchElement;"
                + "melded 0 -1 = !NoSuchElement; melded 1 0 = !NoSuchElement; melded -1 0 = !NoSuchElement");
        run("a shorter one ahead", "types 5 4 3 2 1 0; ways = 2; melds = 2; way = 0 1 2 | 3 4 5;"
                + "melded 2 0 = !NoSuchElement");
        run("number by number, the second one", "types 9 10 11 22 35; least = 20; ways = 2; way = 9 10 11");
        run("number by number, the third one", "types 50 37 24 11 13 26 0 39; wild false true 2;"
                + "way = 0 13 26 39 | 11 24 37 50");
        run("meld by meld", "types 0 1 2 22 23 24 37 50; ways = 2; least = 20; way = 0 1 2 | 22 23 24");
        run("a run or a set of the most worth", "types 37 24 11 10 9; least = 20; ways = 2; way = 9 10 11");
        run("a longer one ahead by its numbers", "types 9 10 11 12 25 38; least = 0; ways = 1;"
                + "way = 9 10 11 | 12 25 38");
        run("seven in a row", "types 0 1 2 3 4 5 6; least = 0; ways = 3; way = 0 1 2 | 3 4 5 6");
        run("the lowest left over if that is no worse", "types 0 13 26 39 40 41; least = 0; ways = 1;"
                + "way = 0 13 26 | 39 40 41");
        run("which of like worths is left", "types 9 10 11 12 22 35 25 38; least = 20; ways = 3;"
                + "way = 9 10 11 | 12 25 38");
    }

    /** "Examples: each one begins with a new object"; the third one is a deal, see DealEdgesTest. */
    private static void examples() {
        run("the first example", "wipe = 0; type 3 = 1; type 16 = 2; type 29 = 3; kind = s; least = 0");
        run("the second example", "wipe = 0; type 0 = 1; type 1 = 2; type 2 = 3; type 3 = 4; type 16 = 5; type 29 = 6;"
                + "least = 0; ways = 1; melds = 2; melded 0 0 = 0");
    }

    /** Typed cards are gone by a wipe, a meld or cards laid off, and by nothing else: not by looks, rules or deals. */
    private static void typedStay() {
        run("by looks and rules", "types 3 16 29; kind = s; least = 0; ways = 1; way = 3 16 29; packs 2 4; ace r;"
                + "wild true true 4; kind = s; type 52 = 4; wipe = 4");
        run("by a deal, a turn and an end", "types 3 16 29; deal g 2 825; draw; kind = s; knock 15; kind = s; wipe = 3;"
                + "types 3 4; deal r 2 5; draw = 2; discard 2 = 1; type 5 = 3; kind = r; wipe = 3");
        run("rules are asked anew", "types 3 3 16 52; least = 4; wild false true 2; least = 0; wild false true 0;"
                + "least = 20; ways = 1; way = 3 3 16; wild false false 2; least = 4; way = 3 16 52; ways = 1;"
                + "types 11 12 0; least = 21; ace h; least = 0; ace l; least = 21; melds = 0");
    }

    public static void main(String[] args) {
        examples();
        typedStay();
        cards();
        packs();
        wildTwos();
        worths();
        fewCards();
        limits();
        tightSets();
        looseSets();
        runs();
        aces();
        manyCards();
        deadwoods();
        unlikeWays();
        orders();
        finish();
    }
}
