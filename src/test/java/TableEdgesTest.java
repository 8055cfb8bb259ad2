/** The boundary cases that the sentences on melds on the table, contracts, ends and knocks name, each by a run. */
public final class TableEdgesTest extends HouseChecks {
    /** A deal in 'g' that ends in the first turn: each one raises the number of the next deal by one. */
    private static final String KNOCK = "deal g 2 825; draw; knock 15 = 28;";

    // ---- melds on the table

    /** "Puts the typed cards on the table as a meld; they are wiped then. Returns the number of the meld, from 0." */
    private static void melds() {
        String hand = "packs 1 2; deal r 3 224; draw; cards 0 = 3 4 6 7 46 48 52 52;";
        run("the numbers of melds", hand + "table = 0; put 7 6 52 = 0; wipe = 0; table = 1; put 48 46 52 = 1;"
                + "table = 2; row 0 = 6 7 52;"
                + "row 1 = 46 48 52; owner 0 = 0; owner 1 = 0; owner 2 = !IndexOutOfBounds;"
                + "owner -1 = !IndexOutOfBounds; held 0 = 2;"
                + "tabled 0 2 = 52; tabled 0 3 = !NoSuchElement; tabled 0 -1 = !NoSuchElement;"
                + "tabled 2 0 = !IndexOutOfBounds; tabled -1 0 = !IndexOutOfBounds; tabled 2 -1 = !IndexOutOfBounds");
        run("not these cards", hand + "put 3 4 5 = !Unsupported; wipe = 3; put 3 4 52 52 52 = !Unsupported;"
                + "put 46 47 48 = !Unsupported; put 3 3 52 = !Unsupported; table = 0; held 0 = 8");
        run("no meld", hand + "put 3 4 = !Unsupported; put = !Unsupported; put 3 4 7 = !Unsupported;"
                + "put 3 46 52 = !Unsupported; put 3 52 52 = !Unsupported; held 0 = 8; wipe = 3");
        run("not the lowest card", "deal r 2 10; draw; cards 0 = 13 14 16 27 30 31 39 44; put 0 13 39 = !Unsupported;"
                + "table = 0; held 0 = 8");
        run("not in the part to draw", "deal r 2 141; put 32 33 34 = !Unsupported; wipe = 3; draw; put 32 33 34 = 0");
        run("not in 'g'", "deal g 2 825; draw; put 21 22 23 = !Unsupported; wipe = 3; layOff 0 = !IndexOutOfBounds;"
                + "table = 0");
        run("a meld of 12 or more typed cards", "packs 1 2; ace h; deal r 2 45; passes 36; take 36 = 37;"
                + "put 39 40 41 42 43 44 45 46 47 48 49 50 = 0; held 0 = 32");
    }

    /** "cards are laid off to melds there, so that these are melds still": 13 in a run, 4 and 8 in a set, the limit */
    private static void fullMelds() {
        String many = "packs 1 2; ace h; deal r 2 45; passes 36; take 36 = 37;";
        run("13 cards of a run are all", many + "put 39 40 41 42 43 44 45 46 47 48 49 50 51 = 0;"
                + "lay 0 52 = !Unsupported; wipe = 1; tabled 0 12 = 51; tabled 0 13 = !NoSuchElement");
        run("the 13th and the 14th", many + "put 39 40 41 42 43 44 45 46 47 48 49 50 = 0; lay 0 52 = 13;"
                + "lay 0 51 = !Unsupported; hand 0 51 = 1; isSound = true");
        run("more than 13 at once", many + "put 39 40 41 42 43 44 45 46 47 48 49 50 = 0; lay 0 51 52 = !Unsupported;"
                + "lay 0 51 = 13");
        String fours = "packs 1 2; ace h; deal r 2 65; passes 36; take 36 = 37;";
        run("4 cards of a tight set are all", fours + "put 11 24 37 50 = 0; lay 0 52 = !Unsupported; put 2 15 28 = 1;"
                + "lay 1 52 = 4; lay 1 41 = !Unsupported; isSound = true");
        run("8 cards of a loose set are all", "packs 2 1; wild false true 2; deal r 2 13; passes 84; take 84 = 85;"
                + "must = 47;"
                + "put 8 8 21 21 34 34 47 = 0; must = !NoSuchElement; lay 0 47 = 8; lay 0 52 = !Unsupported;"
                + "row 0 = 8 8 21 21 34 34 47 47");
        String jokers = "deal r 2 60; draw; put 42 43 52 = 0; lay 0 52";
        run("the limit of wild ones", "packs 1 4; wild false false 1;" + jokers + " = !Unsupported; hand 0 52 = 1");
        run("a higher limit", "packs 1 4; wild false false 2;" + jokers + " = 4; row 0 = 42 43 52 52; isSound = true");
    }

    /** Runs grow at their ends alone, and aces go where the order lets them. */
    private static void laidOffToRuns() {
        String many = "packs 1 2; ace h; deal r 2 45; passes 36; take 36 = 37; put 28 29 30 = 0;";
        run("several at once", many + "lay 0 33 31 32 = 6; row 0 = 28 29 30 31 32 33");
        run("both ends at once", many + "lay 0 27 31 = 5; lay 0 26 = 6; row 0 = 26 27 28 29 30 31");
        run("a gap", many + "lay 0 32 = !Unsupported; lay 0 31 33 = !Unsupported; lay 0 32 52 = 5;"
                + "row 0 = 28 29 30 32 52; lay 0 31 = 6; isSound = true");
        run("another suit, a like rank", many + "lay 0 44 = !Unsupported; lay 0 18 = !Unsupported;"
                + "lay 0 17 = !Unsupported");
        String suit = "deal r 2 1353; passes 36; take 36 = 37; must = 4;";
        run("the ace in 'l'", "ace l;" + suit + "put 10 11 12 = 0; lay 0 0 = !Unsupported; lay 0 9 = 4; put 1 2 3 = 1;"
                + "lay 1 12 = !Unsupported; lay 1 0 = 4; row 1 = 0 1 2 3");
        run("the ace in 'h'", "ace h;" + suit + "put 10 11 12 = 0; lay 0 0 1 = !Unsupported; lay 0 0 = 4;"
                + "lay 0 1 = !Unsupported; lay 0 9 = 5; row 0 = 0 9 10 11 12; isSound = true");
        run("the low ace in 'h'", "ace h;" + suit + "put 0 1 2 = 0; lay 0 12 = !Unsupported; lay 0 3 = 4");
        run("the ace in 'r'", "ace r;" + suit + "put 10 11 12 = 0; lay 0 1 = !Unsupported; lay 0 0 1 = 5;"
                + "lay 0 2 3 4 5 6 7 8 9 = 13; row 0 = 0 1 2 3 4 5 6 7 8 9 10 11 12; isSound = true");
        run("the low ace in 'r'", "ace r;" + suit + "put 0 1 2 = 0; lay 0 12 = 4; row 0 = 0 1 2 12; put 7 8 9 = 1;"
                + "isSound = true");
    }

    /** "by anyone who has melded in this deal" */
    private static void whoLaysOff() {
        run("one who has not melded", "deal r 2 24; draw; put 9 35 48 = 0; shed; draw; hand 1 22 = 1;"
                + "lay 0 22 = !Unsupported; wipe = 1;"
                + "layOff 1 = !IndexOutOfBounds; layOff -1 = !IndexOutOfBounds; held 1 = 8");
        run("one who has melded in an earlier turn", "deal r 2 141; draw; put 31 32 33 = 0; shed; pass;"
                + "lay 0 34 = !Unsupported; draw; lay 0 34 = 4; hand 0 34 = 0; wipe = 0");
        run("not in the part to draw", "deal r 2 141; draw; put 31 32 33; shed; pass; part = d;"
                + "lay 0 34 = !Unsupported; wipe = 1");
        run("nothing typed", "deal r 2 141; draw; put 31 32 33 = 0; wipe = 0; layOff 0 = !Unsupported;"
                + "row 0 = 31 32 33");
        run("not these cards", "deal r 2 141; draw; put 31 32 33 = 0; hand 0 30 = 0; lay 0 30 = !Unsupported;"
                + "lay 0 34 35 = !Unsupported; lay 0 34 34 = !Unsupported");
        run("no meld then", "deal r 2 141; draw; put 31 32 33 = 0; hand 0 40 = 1; lay 0 40 = !Unsupported;"
                + "lay 0 34 40 = !Unsupported; held 0 = 5; table = 1; wipe = 2");
        run("no meld lies there", "deal r 2 141; draw; lay 0 34 = !IndexOutOfBounds; lay -1 34 = !IndexOutOfBounds;"
                + "put 31 32 33; lay 1 34 = !IndexOutOfBounds; lay 2147483647 34 = !IndexOutOfBounds;"
                + "lay -2147483648 34 = !IndexOutOfBounds");
        run("one who has melded, to the meld of another", "deal r 2 936; draw; put 5 6 7 = 0; shed = 1; draw;"
                + "lay 0 8 = !Unsupported; put 10 23 49 = 1; lay 0 8 = 4; row 0 = 5 6 7 8; owner 0 = 0; owner 1 = 1;"
                + "owner 2 = !IndexOutOfBounds; isSound = true");
        run("one who has melded in an earlier deal", "deal r 2 20; pass; draw; put 48 49 50 = 0; owner 0 = 1; shed;"
                + "passes 72; draw = -1;"
                + "deal r 2 24; draw; put 9 35 48 = 0; shed; draw; lay 0 22 = !Unsupported; table = 1");
    }

    // ---- contracts

    /** "1 and 0, 0 and 1, 2 and 0, 1 and 1, 0 and 2, by the number of this deal among all deals, .. modulo 5" */
    private static void contracts() {
        int[] sets = {1, 0, 2, 1, 0};
        int[] runs = {0, 1, 0, 1, 2};
        for (int number = 0; number < 10; number++) {
            for (int s = 0; s <= 2; s++) {
                for (int r = 0; r <= 3 - s && r <= 2; r++) {
                    boolean isMet = s + r == 0 || s >= sets[number % 5] && r >= runs[number % 5];
                    if (r <= 1) {
                        contract(number, "1269", new String[] {"5 31 52", "9 35 52"}, s, new String[] {"49 50 52"}, r,
                                "50", isMet);
                    }
                    if (s <= 1) {
                        contract(number, "1065", new String[] {"0 13 39"}, s, new String[] {"18 19 52", "46 47 52"},
                                r, "25", isMet);
                    }
                }
            }
        }
    }

    private static void contract(int number, String z, String[] sets, int s, String[] runs, int r, String card,
            boolean isMet) {
        StringBuilder calls = new StringBuilder(KNOCK.repeat(number)).append("packs 2 4;"
                + "deal c 2 ").append(z).append("; draw;");
        for (int i = 0; i < s; i++) {
            calls.append("put ").append(sets[i]).append(" = ").append(i).append(";");
        }
        for (int i = 0; i < r; i++) {
            calls.append("put ").append(runs[i]).append(" = ").append(s + i).append(";");
        }
        String met = s + r == 3 ? " = 0; part = e" : " = 1; part = d";
        run(s + " sets and " + r + " runs in deal " + number, calls + "discard " + card
                + (isMet ? met : " = !Unsupported; part = p")
                + "; isSound = true");
    }

    /** "by the discard of the turn in which a player first melds .. of this player on the table" */
    private static void firstMelds() {
        String later = KNOCK.repeat(2) + "packs 2 4; deal c 2 1269; draw; discard 50 = 1; pass = 0; draw;"
                + "put 5 31 52 = 0;";
        run("the first melds may come later", later + "shed = !Unsupported; put 9 35 52 = 1; shed = 1");
        run("a contract that was met stays met", "packs 2 4; deal c 2 1269; draw; put 5 31 52 = 0; discard 50 = 1;"
                + "pass = 0; pass = 1; pass = 0; draw; put 49 50 52 = 1; shed = 1");
        String second = "packs 2 4; deal c 2 506; draw; put 9 22 35 = 0; shed = 1; draw; put 18 19 21 52 = 1;";
        run("the melds of others do not count", second + "shed = !Unsupported; put 2 41 52 = 2; shed = 0;"
                + "isSound = true");
        run("nobody must meld", KNOCK.repeat(4) + "packs 2 4; deal c 2 1269; passes 6 = 0");
        run("'r' has no contract", KNOCK.repeat(4) + "packs 1 2; deal r 3 224; draw; put 6 7 52 = 0; discard 3 = 1");
    }

    /** "Nobody is without cards by a meld or cards laid off who .. has not met the contract by that." */
    private static void withoutCards() {
        String sets = "packs 2 4; deal c 2 22900; draw; put 3 42 52 = 0;";
        for (int number = 0; number < 5; number++) {
            String calls = KNOCK.repeat(number) + sets;
            boolean isMet = number == 0 || number == 2;
            run("out by sets in deal " + number, calls + "put 9 22 35 52 = 1; put 10 36 49 = " + (isMet ? "2;"
                    + "part = e; held 0 = 0"
                    : "!Unsupported; wipe = 3; part = p; held 0 = 3; table = 2; discard 10 = !Unsupported"));
            run("out by sets and a joker laid off in deal " + number, calls + "put 9 22 35 = 1; put 10 36 49 = 2;"
                    + "lay 1 52 = "
                    + (isMet ? "4; part = e; held 0 = 0" : "!Unsupported; wipe = 1; part = p; held 0 = 1;"
                            + "discard 52 = !Unsupported"));
        }
        String three = KNOCK.repeat(3) + "packs 2 4; deal c 2 327339; draw;";
        run("the contract met by the last meld, a run", three + "put 1 27 40 = 0; put 16 18 19 20 22 52 52 = 1;"
                + "part = e");
        run("the contract met by the last meld, a set", three + "put 16 18 19 20 22 52 52 = 0; put 1 27 40 = 1;"
                + "part = e");
        run("the contract met by the second run", KNOCK.repeat(4) + "packs 2 4; deal c 2 421783; draw;"
                + "put 26 27 28 29 30 31 32 = 0; put 35 36 52 = 1; part = e");
        run("a last set is but one", KNOCK.repeat(2) + "packs 2 4; deal c 2 10242; draw; put 13 14 16 52 = 0;"
                + "put 46 47 52 = 1; put 10 49 52 = !Unsupported; held 0 = 3; part = p");
        run("a last run is but one", KNOCK.repeat(4) + "packs 2 4; deal c 2 327339; draw; put 1 27 40 = 0;"
                + "put 16 18 19 20 22 52 52 = !Unsupported; held 0 = 7; part = p");
        run("the first set, behind runs", "packs 2 4; deal c 2 10242; draw; put 13 14 16 52 = 0; put 46 47 52 = 1;"
                + "put 10 49 52 = 2; part = e");
        run("no contract for the last discard but the own one", "packs 2 4; deal c 2 1269; draw; put 5 31 52;"
                + "put 9 35 52; put 49 50 52; held 0 = 1; discard 50 = 0; part = e");
    }

    /** "Nobody is without cards by a meld .. who must still use a card": the last use may be the last meld */
    private static void boundToTheEnd() {
        run("out by the meld of the card that must be used", "packs 2 4; deal r 2 1032; pass; take 1 = 2; must = 49;"
                + "put 0 13 39 = 0;"
                + "put 48 50 52 = 1; must = 49; put 10 23 49 = 2; part = e; must = !IllegalState; points 1 = 70;"
                + "isSound = true");
        run("out by it ahead", "packs 2 4; deal r 2 1032; pass; take 1 = 2; put 10 23 49 = 0; put 0 13 39 = 1;"
                + "put 48 50 52 = 2; part = e");
        run("out by laying it off", "packs 2 4; deal r 2 608398; pass; take 1 = 2; must = 42; put 3 16 29 = 0;"
                + "put 32 33 34 35 52 = 1;"
                + "held 1 = 1; discard 42 = !Unsupported; lay 1 42 = !Unsupported; must = 42; lay 0 42 = 4; part = e;"
                + "points 1 = 65");
    }

    // ---- ends

    /** "a player without cards is out, at once, also without a discard, and the deal is over" */
    private static void outs() {
        String three = "packs 1 2; deal r 3 224; draw;";
        String over = "part = e; turn = !IllegalState; held 0 = 0; points 0 = 93; points 1 = 0; points 2 = 0;"
                + "discard 3 = !IllegalState;"
                + "draw = !IllegalState; take 0 = !IllegalState; meld = !IllegalState; layOff 0 = !IllegalState;"
                + "claim 1 = !IllegalState;"
                + "knock 3 = !IllegalState; must = !IllegalState; voids = 0; meanWorth 0 = !Arithmetic;"
                + "deadwood 0 = 0; isSound = true";
        run("by a meld", three + "put 3 4 6 7 52 = 0; part = p; put 46 48 52 = 1;" + over);
        run("by cards laid off", three + "put 3 4 6 52 = 0; put 46 48 52 = 1; held 0 = 1; part = p; lay 0 7 = 5;"
                + over);
        run("by several cards laid off", three + "put 4 6 52 = 0; put 46 48 52 = 1; lay 0 3 7 = 5;" + over);
        run("by a discard, four players", "packs 1 2; deal r 4 384; draw; put 0 13 26 = 0; put 12 25 38 51 = 1;"
                + "held 0 = 1; discard 19 = 0;"
                + "part = e; turn = !IllegalState; pileAt 0 = 19; points 0 = 166; points 3 = 0; held 3 = 7;"
                + "isSound = true");
        run("the second player", "packs 1 2; deal r 2 20542; pass; draw; put 4 5 6 7 = 0; put 29 31 52 52 = 1;"
                + "part = e; points 1 = 55; points 0 = 0; owner 1 = 1; isSound = true");
        run("points add up", three + "put 3 4 6 7 52; put 46 48 52; packs 1 2;" + three + "put 3 4 6 7 52;"
                + "put 46 48 52; points 0 = 186;"
                + "deals = 2; deal r 2 20542; pass; draw; put 4 5 6 7; put 29 31 52 52; points 0 = 186; points 1 = 55;"
                + "points 2 = 0");
        run("the last card but one", three + "put 3 4 6 52; put 46 48 52; held 0 = 1; discard 7 = 0; part = e");
    }

    // ---- knocks

    /** "to knock discards a card, and needs a least deadwood of at most 10 then" */
    private static void tenAndEleven() {
        String hand = "deal g 2 825; draw; cards 0 = 9 14 15 21 22 23 24 27 35 44 48;";
        run("with 11", hand + "knock 14 = !Unsupported; knock 27 = !Unsupported; held 0 = 11; part = p; pile = 1;"
                + "points 0 = 0");
        // 20 is laid off to 21 22 23 24, and 19 32 45 are a set of the other one: 1 8 13 31 36 51 are left, 38.
        run("with 10", hand + "knock 15 = 28; part = e; points 0 = 28; points 1 = 0; held 0 = 10; held 1 = 10;"
                + "pileAt 0 = 15; pile = 2;"
                + "deadwood 0 = 10; deadwood 1 = 46; turn = !IllegalState; table = 0; tableShare = 0.0;"
                + "isSound = true; knock 14 = !IllegalState");
        run("with 7", hand + "knock 44; part = e");
        run("with 11, the lowest card in it", "deal g 2 1156; draw; deadwood 0 = 18; hand 0 0 = 1;"
                + "knock 6 = !Unsupported; knock 19 = !Unsupported; part = p");
        run("with a card not held", "deal g 2 13915; draw; deadwood 0 = 10; knock 0 = !Unsupported;"
                + "knock 52 = !Unsupported; held 0 = 11");
        run("in the part to draw", "deal g 2 1208; deadwood 0 = 10; knock 7 = !Unsupported; knock 11 = !Unsupported;"
                + "part = d; held 0 = 10");
        run("not in 'r'", "packs 1 2; deal r 2 20542; pass; draw; deadwood 1 = 0; knock 4 = !Unsupported; part = p;"
                + "held 1 = 8");
        run("not in 'c'", "packs 2 4; deal c 2 22900; draw; deadwood 0 = 0; knock 3 = !Unsupported; part = p;"
                + "held 0 = 10");
        run("nobody is forced", hand + "discard 15 = 1; part = d");
    }

    /** "With 0 the knocker gets 25 and the least deadwood of the other one.": nothing is laid off to it */
    private static void gins() {
        run("with 0", "deal g 2 13915; draw; deadwood 1 = 61; knock 12 = 86; points 0 = 86; points 1 = 0;"
                + "deadwood 0 = 0; isSound = true");
        run("with 0, again", "deal g 2 45292; draw; knock 5 = 91; points 0 = 91");
        run("with 0 by the second player", "deal g 2 10221; pass; draw; deadwood 0 = 63; knock 17 = 88; points 1 = 88;"
                + "points 0 = 0");
    }

    /** "if it is more than the knocker's, the knocker gets the difference, else the other one gets .. and 25" */
    private static void differences() {
        run("one less than the other one's", "deal g 2 95798; draw; knock 40 = 1; points 0 = 1; points 1 = 0");
        run("as many", "deal g 2 95798; draw; knock 26 = -25; points 0 = 0; points 1 = 25; part = e");
        run("one more", "deal g 2 169066; draw; knock 38 = -26; points 0 = 0; points 1 = 26");
        run("more", "deal g 2 295103; draw; knock 38 = -29; points 0 = 0; points 1 = 29");
        run("much less", "deal g 2 507; draw; knock 50 = 46; points 0 = 46");
        run("the second player gets it", "deal g 2 96; pass; draw; knock 35 = 54; points 0 = 0; points 1 = 54");
        run("the second player loses it", "deal g 2 89985; pass; draw; knock 31 = -31; points 0 = 31; points 1 = 0");
        run("points add up", "deal g 2 95798; draw; knock 26; deal g 2 95798; draw; knock 40; deal g 2 95798; draw;"
                + "knock 26; points 0 = 1; points 1 = 50; deals = 3");
    }

    /** "the other one lays off to these melds so that the least deadwood of the rest is least" */
    private static void laidOffBehind() {
        run("two cards to one run, one behind the other", "deal g 2 930; draw; deadwood 1 = 79; knock 37 = 54");
        run("cards laid off that were melded", "deal g 2 175717; draw; deadwood 1 = 34; knock 8 = 20");
        run("cards laid off that were melded, again", "deal g 2 283973; draw; deadwood 1 = 48; knock 18 = 29");
        run("nothing to be laid off", "deal g 2 2044; draw; deadwood 1 = 36; knock 24 = 26");
        // 0 13 26, 7 20 33 and 40 41 42 lie open: 39 goes to one of two, and 16 17 18 are a run.
        run("a card to one of two melds", "deal g 2 71053; draw; knock 22 = 39");
        // 31 44 52 lie open: one of 5 and 18 makes it a set of four, and no more can be laid off.
        run("one card to a tight set", "packs 1 2; deal g 2 3465; draw; deadwood 1 = 71; knock 14 = 59");
        // 3 4 5 lie open: one 2 of two, 1 and 6 go there.
        run("like cards to a run", "packs 2 0; deal g 2 590; draw; deadwood 1 = 58; knock 7 = 40");
        // 5 6 7, 16 29 52 and 27 28 52 lie open: 2 3 4 8 go to the first one, so that 3 is not left for the second.
        run("cards to a run, none of them to a set", "packs 1 2; deal g 2 1249; draw; deadwood 1 = 59; knock 24 = 40");
        run("nothing to the melds of an earlier knock", KNOCK + "deal g 2 2113; draw; knock 0 = 64; deadwood 0 = 3;"
                + "deadwood 1 = 67; points 0 = 92");
    }

    /** "the melds of the first best way of the knocker lie open": others would take another card */
    private static void firstWayOpen() {
        run("a run of four and not a set of four", "deal g 2 191674; draw; knock 6 = 43; deadwood 0 = 9");
        run("a run and not a set", "deal g 2 143589; draw; knock 11 = 56; deadwood 0 = 9");
        run("a set and not a run", "deal g 2 247821; draw; knock 46 = 34; deadwood 0 = 8");
    }

    // ---- what is asked

    /** "Throws UnsupportedOperationException if the player has more than 11 cards" */
    private static void elevenHeld() {
        run("11 cards and 12", "deal c 4 99; claim 1; draw = 41; held 1 = 11; deadwood 1; discard 41; draw;"
                + "held 1 = 12; deadwood 1 = !Unsupported;"
                + "deadwood 0; deadwood 4 = !IndexOutOfBounds; deadwood -1 = !IndexOutOfBounds; isSound = true; shed;"
                + "held 1 = 11; deadwood 1");
        run("no card", "packs 1 2; deal r 3 224; draw; put 3 4 6 7 52; put 46 48 52; deadwood 0 = 0;"
                + "deadwood 3 = !IndexOutOfBounds");
    }

    /** "Returns their number divided by that of all, both converted to float." */
    private static void shares() {
        run("share", "tableShare = !Arithmetic; deal r 2 141; tableShare = 0.0; draw; put 31 32 33; tableShare = "
                + 3f / 52f + "; lay 0 34; tableShare = " + 4f / 52f);
        run("share of 105", "packs 2 1; wild false true 2; deal r 2 13; passes 84; take 84;"
                + "put 8 8 21 21 34 34 47; tableShare = " + 7f / 105f + "; lay 0 47; tableShare = " + 8f / 105f);
        String three = "packs 1 2; deal r 3 224; draw; put 3 4 6 7 52; put 46 48 52; tableShare = " + 8f / 54f + ";";
        run("share of the next deal", three + "deal r 3 224; tableShare = 0.0; isSound = true; draw; put 46 48 52;"
                + "isSound = true; tableShare = " + 3f / 54f);
        run("share of a void deal", "deal c 4 77; passes 30; draw = -1; tableShare = 0.0; ace l;"
                + "tableShare = !Arithmetic");
    }

    /** "Returns the sum divided by their number, both converted to double." */
    private static void means() {
        double drawn = (4 + 5 + 7 + 8 + 8 + 10 + 40) / 8.0;
        run("mean", "meanWorth 0 = !IndexOutOfBounds; packs 1 2; deal r 3 224; meanWorth 1 = " + 47.0 / 7.0
                + "; meanWorth 2 = " + 46.0 / 7.0 + "; meanWorth 3 = !IndexOutOfBounds;"
                + "meanWorth -1 = !IndexOutOfBounds; draw; meanWorth 0 = " + drawn);
        run("mean of a wild two", "deal r 2 141; meanWorth 0 = " + (5 + 6 + 7 + 8 + 9 + 2 + 6) / 7.0 + "; passes 74;"
                + "draw = -1; wild true false 2; deal r 2 141; meanWorth 0 = " + (5 + 6 + 7 + 8 + 9 + 20 + 6) / 7.0);
        run("mean of none", "packs 1 2; deal r 3 224; draw; put 3 4 6 7 52; put 46 48 52; meanWorth 0 = !Arithmetic;"
                + "meanWorth 1 = " + 47.0 / 7.0);
    }

    public static void main(String[] args) {
        melds();
        fullMelds();
        laidOffToRuns();
        whoLaysOff();
        contracts();
        firstMelds();
        withoutCards();
        boundToTheEnd();
        outs();
        tenAndEleven();
        gins();
        differences();
        laidOffBehind();
        firstWayOpen();
        elevenHeld();
        shares();
        means();
        finish();
    }
}
