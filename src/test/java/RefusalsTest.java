import java.util.ArrayList;
import java.util.List;

/**
 * "A method that throws an exception changes nothing. If several conditions of a method apply, the exception that is
 * listed first is thrown.": each condition of each method alone, and two and more of them together. A house that
 * refused a call answers like a twin that was not asked, at once and in all that follows.
 */
public final class RefusalsTest extends HouseChecks {
    private static final String THIRTEEN = "types 0 1 2 3 16 29 42 20 21 22 23 24 25;";
    private static final String TWELVE = "types 0 1 2 3 16 29 42 20 21 22 23 24;";
    private static final String VOID = "deal c 4 77; passes 30; draw;";
    private static final String OVER = "packs 1 2; deal r 3 224; draw; put 3 4 6 7 52; put 46 48 52;";
    private static final String GONE = OVER + "ace l;";
    private static final String DRAW = "deal r 2 5;";
    private static final String PLAY = "deal r 2 5; draw;";
    private static final String FROZEN = "packs 1 4; deal r 2 1; draw; discard 52;";
    private static final String CLAIMED = "deal c 4 99; claim 3; claim 2;";
    private static final String BOUND = "packs 2 4; deal r 2 30; pass; take 1;";
    private static final String MELDED = "deal r 2 141; draw; put 31 32 33;";
    private static final String ALONE = "deal g 2 825; draw;";
    private static final String SHORT = "deal g 2 825; draw; knock 15; packs 2 4; deal c 2 22900; draw; put 3 42 52;"
            + "put 9 22 35;";
    private static final String[] SCENES = {"", THIRTEEN, TWELVE, VOID, OVER, GONE, DRAW, PLAY, FROZEN, CLAIMED,
            BOUND, MELDED, ALONE, SHORT, "deal g 2 30; passes 2;", "deal g 2 1208; types 15 16 17;",
            DRAW + "passes 2; take 0;", MELDED + "types 34;", MELDED + "shed; pass; types 34;",
            "deal r 2 24; draw; put 9 35 48; shed; draw; types 22;", SHORT + "put 10 36 49; types 52;",
            SHORT + "types 10 36 49;", "deal c 4 77; passes 15; claim 0;", "deal r 4 12; claim 2; types 5 5 5;",
            "deal c 4 99; claim 1; draw; discard 41; draw;",
            "packs 2 4; deal r 2 609; pass; take 1; put 41 43 44 45 46 47 48 52;", ALONE + "knock 15;",
            "packs 2 4; ace r; wild true true 4; deal c 3 8; draw;"};
    private static final String[] CALLS = {"packs 1 0", "packs 0 0", "packs 3 0", "packs 1 -1", "packs 2 5", "ace l",
            "ace h", "ace x", "wild true true 4", "wild false false -1", "wild false false 5", "worth -1", "worth 53",
            "type -1", "type 53", "type 5", "least", "ways", "melds", "melded -1 0", "melded 0 -1", "melded 9 0",
            "melded 0 99", "deal r 2 5", "deal g 2 5", "deal g 3 5", "deal c 5 1", "deal x 2 1", "deal r 1 1",
            "pileAt -1", "pileAt 999", "pileAt 0", "held -1", "held 4", "held 0", "hand -1 0", "hand 4 53",
            "hand 0 53", "hand 0 -1", "turn", "draw", "take 0", "take 1", "take -1", "take 999", "must", "meld",
            "layOff -1", "layOff 0", "layOff 1", "layOff 99", "discard -1", "discard 53", "discard 0", "discard 6",
            "discard 17", "discard 52", "knock -1", "knock 53", "knock 0", "knock 14", "knock 15", "knock 52",
            "claim -1", "claim 4", "claim 0", "claim 1", "claim 2", "claim 3", "tabled -1 0", "tabled 99 0",
            "tabled 0 -1", "tabled 0 99", "owner -1", "owner 0", "owner 99", "deadwood -1", "deadwood 4",
            "deadwood 0", "deadwood 1", "known -1 0", "known 4 53", "known 0 53", "known 0 -1", "points -1",
            "points 4", "tableShare", "meanWorth -1", "meanWorth 4", "meanWorth 0"};

    // ---- a house and its twin

    private static <T> T played(T target, String rows) {
        for (String row : rows.split(";")) {
            if (!row.isBlank()) {
                String text = String.valueOf(told(target, row));
                if (text.startsWith("throws.")) {
                    is("the way to a scene: " + row + " of " + rows, text, "no throw");
                }
            }
        }
        return target;
    }

    private static void refused(String rows, String call, String exception) {
        Meldhouse house = played(new Meldhouse(), rows);
        is(rows + " " + call, told(house, call), "throws." + exception);
        same("asked behind " + rows + " " + call, looks(house), looks(played(new Meldhouse(), rows)));
        Meldhouse other = played(new Meldhouse(), rows);
        told(other, call);
        same("going on behind " + rows + " " + call, goesOn(other), goesOn(played(new Meldhouse(), rows)));
    }

    private static void same(String what, List<String> got, List<String> due) {
        for (int i = 0; i < got.size() && i < due.size(); i++) {
            if (!got.get(i).equals(due.get(i))) {
                is(what, got.get(i), due.get(i));
                return;
            }
        }
        is(what + ", how many answers", got.size(), due.size());
    }

    private static void look(List<String> answers, Meldhouse x, String call) {
        answers.add(call + " = " + told(x, call));
    }

    /** All that can be asked without a change: the checksum stands for hands, pile and stock. */
    private static List<String> looks(Meldhouse x) {
        List<String> answers = new ArrayList<>();
        for (String call : new String[] {"part", "turn", "stock", "pile", "pileAt 0", "isFrozen", "must", "table",
                "deals", "voids", "checksum", "tableShare", "isSound", "kind", "least", "ways", "melds", "way",
                "worth 1", "points 0", "points 1", "points 2", "points 3", "row 0", "row 1", "owner 0", "owner 1"}) {
            if (!call.equals("way") || answers.get(answers.size() - 1).matches("melds = \\d+")) {
                look(answers, x, call);
            }
        }
        for (int player = 0; player < 4; player++) {
            for (String name : new String[] {"held ", "deadwood ", "meanWorth "}) {
                look(answers, x, name + player);
            }
            for (int card = 0; card <= 52 && !answers.get(answers.size() - 1).contains("IndexOut"); card++) {
                look(answers, x, "known " + player + " " + card);
            }
        }
        return answers;
    }

    /** The typed cards are melded or laid off if they can be; then turns are played, with claims and takes. */
    private static List<String> goesOn(Meldhouse x) {
        List<String> answers = new ArrayList<>();
        for (String call : new String[] {"meld", "layOff 0", "type 7", "wipe"}) {
            look(answers, x, call);
        }
        for (int turn = 0; turn < 12; turn++) {
            for (int player = 3; player >= 0 && turn % 3 == 1; player--) {
                look(answers, x, "claim " + player);
            }
            look(answers, x, turn % 4 == 2 ? "take 0" : "draw");
            look(answers, x, "must");
            discardFirst(answers, x);
        }
        for (String call : new String[] {"checksum", "deals", "voids", "ace r", "wild true true 3", "packs 1 1",
                "deal g 2 9"}) {
            look(answers, x, call);
        }
        return answers;
    }

    private static void discardFirst(List<String> answers, Meldhouse x) {
        if (x.part() == 'p') {
            List<Integer> hand = handOf(x, x.turn());
            for (int i = 0; i < 3 && i < hand.size() && x.part() == 'p'; i++) {
                look(answers, x, "discard " + hand.get(i));
            }
        }
    }

    // ---- each condition alone, and together with those that are listed behind it

    private static void rules() {
        for (String rows : new String[] {"", DRAW, PLAY, OVER, THIRTEEN}) {
            for (String call : new String[] {"packs 0 0", "packs 3 4", "packs 1 -1", "packs 2 5",
                    "packs -2147483648 0", "ace x", "ace L", "wild true true -1", "wild true false 5",
                    "wild false true 2147483647"}) {
                refused(rows, call, ARGUMENT);
            }
        }
        for (String rows : new String[] {DRAW, PLAY, FROZEN, BOUND, ALONE, CLAIMED}) {
            for (String call : new String[] {"packs 1 0", "packs 2 4", "ace l", "ace r", "wild false false 2",
                    "wild true true 0"}) {
                refused(rows, call, STATE);
            }
        }
        for (String card : new String[] {"-1", "53", "2147483647"}) {
            refused(PLAY, "worth " + card, ARGUMENT);
            refused(PLAY, "type " + card, ARGUMENT);
            refused(THIRTEEN, "type " + card, ARGUMENT);
        }
        refused(THIRTEEN, "type 0", STATE);
        refused(THIRTEEN + DRAW, "type 52", STATE);
    }

    private static void hands() {
        for (String rows : new String[] {TWELVE, THIRTEEN, TWELVE + PLAY}) {
            for (String call : new String[] {"least", "ways", "melds", "melded 0 0", "melded -1 0", "melded 0 -1",
                    "melded 9 9"}) {
                refused(rows, call, UNSUPPORTED);
            }
        }
        for (String call : new String[] {"melded -1 0", "melded 1 0", "melded 0 -1", "melded 0 3",
                "melded 2147483647 0", "melded 0 2147483647"}) {
            refused("types 3 16 29;", call, ELEMENT);
        }
        refused("", "melded 0 0", ELEMENT);
    }

    private static void deals() {
        for (String rows : new String[] {"", DRAW, PLAY, OVER, VOID}) {
            for (String call : new String[] {"deal x 2 1", "deal G 2 1", "deal g 1 1", "deal g 3 1", "deal r 1 1",
                    "deal r 5 1", "deal c 0 1", "deal c -2147483648 1", "deal c 2147483647 1"}) {
                refused(rows, call, ARGUMENT);
            }
        }
        for (String rows : new String[] {DRAW, PLAY, FROZEN, CLAIMED, BOUND, MELDED, ALONE}) {
            refused(rows, "deal r 2 5", STATE);
            refused(rows, "deal g 2 7", STATE);
        }
    }

    private static void looked() {
        for (String rows : new String[] {"", GONE}) {
            for (String call : new String[] {"held 0", "hand 0 0", "hand 0 53", "known 0 0", "known 0 53",
                    "deadwood 0", "meanWorth 0", "tabled 0 0", "owner 0"}) {
                refused(rows, call, BOUNDS);
            }
            refused(rows, "pileAt 0", ELEMENT);
            refused(rows, "turn", STATE);
            refused(rows, "must", STATE);
            refused(rows, "tableShare", ARITHMETIC);
        }
        for (String name : new String[] {"held", "deadwood", "meanWorth", "points"}) {
            refused(PLAY, name + " -1", BOUNDS);
            refused(PLAY, name + (name.equals("points") ? " 4" : " 2"), BOUNDS);
        }
        for (String name : new String[] {"hand", "known"}) {
            refused(PLAY, name + " 2 0", BOUNDS);
            refused(PLAY, name + " -1 53", BOUNDS);
            refused(PLAY, name + " 1 53", ARGUMENT);
            refused(PLAY, name + " 0 -1", ARGUMENT);
        }
        refused(PLAY, "pileAt 1", ELEMENT);
        refused(PLAY, "pileAt -1", ELEMENT);
        refused(MELDED, "tabled 1 0", BOUNDS);
        refused(MELDED, "tabled -1 9", BOUNDS);
        refused(MELDED, "tabled 0 3", ELEMENT);
        refused(MELDED, "tabled 0 -1", ELEMENT);
        refused(MELDED, "owner 1", BOUNDS);
        refused("deal c 4 99; claim 1; draw; discard 41; draw;", "deadwood 1", UNSUPPORTED);
        refused(OVER, "meanWorth 0", ARITHMETIC);
        refused(OVER, "turn", STATE);
        refused(VOID, "turn", STATE);
    }

    /** No deal, or one that is over, is listed first in all of these. */
    private static void noDeal() {
        for (String rows : new String[] {"", VOID, OVER, GONE, ALONE + "knock 15;", OVER + "types 3 16 29;"}) {
            for (String call : new String[] {"turn", "must", "draw", "take 0", "take -1", "take 99", "meld",
                    "layOff 0", "layOff 9", "discard 0", "discard 53", "knock 0", "knock -1", "claim 1", "claim 9",
                    "claim -1"}) {
                refused(rows, call, STATE);
            }
        }
    }

    private static void draws() {
        refused(PLAY, "draw", UNSUPPORTED);
        refused(DRAW + "take 0;", "draw", UNSUPPORTED);
        refused(BOUND, "draw", UNSUPPORTED);
        refused(PLAY, "take 0", UNSUPPORTED);
        refused(PLAY, "take 99", UNSUPPORTED);
        refused(PLAY, "take -1", UNSUPPORTED);
        refused(DRAW + "passes 2; take 0;", "take 0", UNSUPPORTED);
        refused(FROZEN, "take 0", UNSUPPORTED);
        refused(FROZEN, "take 1", UNSUPPORTED);
        refused(FROZEN, "take 2", UNSUPPORTED);
        refused(FROZEN, "take -1", UNSUPPORTED);
        refused("deal g 2 30; passes 2;", "take 1", UNSUPPORTED);
        refused("deal g 2 30; passes 2;", "take 3", UNSUPPORTED);
        refused("deal g 2 30; passes 2;", "take -1", ELEMENT);
        refused(DRAW, "take 1", ELEMENT);
        refused(DRAW, "take -1", ELEMENT);
        refused(CLAIMED, "take 1", ELEMENT);
        refused(DRAW + "passes 2;", "take 3", ELEMENT);
        refused(DRAW, "must", ELEMENT);
        refused(PLAY, "must", ELEMENT);
        refused(DRAW + "passes 2; take 0;", "must", ELEMENT);
    }

    private static void melds() {
        refused("deal r 2 141; types 32 33 34;", "meld", UNSUPPORTED);
        refused("deal r 2 141; draw; types 32 33;", "meld", UNSUPPORTED);
        refused("deal r 2 141; draw; types 32 33 40;", "meld", UNSUPPORTED);
        refused("deal r 2 141; draw;", "meld", UNSUPPORTED);
        refused("deal r 2 141; draw; types 33 34 35;", "meld", UNSUPPORTED);
        refused("packs 1 2; deal r 3 224; draw; types 3 4 52 52 52;", "meld", UNSUPPORTED);
        refused(ALONE + "types 21 22 23;", "meld", UNSUPPORTED);
        refused(SHORT + "put 10 36 49; types 52;", "meld", UNSUPPORTED);
        refused("deal g 2 825; draw; knock 15; packs 2 4; deal c 2 22900; draw; put 3 42 52; put 9 22 35 52;"
                + "types 10 36 49;", "meld", UNSUPPORTED);
    }

    private static void layOffs() {
        refused(MELDED + "types 34;", "layOff 1", BOUNDS);
        refused(MELDED + "types 34;", "layOff -1", BOUNDS);
        refused(MELDED + "shed; pass; types 34;", "layOff 1", BOUNDS);
        refused(PLAY, "layOff 0", BOUNDS);
        refused(ALONE, "layOff 0", BOUNDS);
        refused(MELDED + "shed; pass; types 34;", "layOff 0", UNSUPPORTED);
        refused(MELDED, "layOff 0", UNSUPPORTED);
        refused("deal r 2 24; draw; put 9 35 48; shed; draw; types 22;", "layOff 0", UNSUPPORTED);
        refused(MELDED + "types 30;", "layOff 0", UNSUPPORTED);
        refused(MELDED + "types 34 35;", "layOff 0", UNSUPPORTED);
        refused(MELDED + "types 40;", "layOff 0", UNSUPPORTED);
        refused(SHORT + "put 10 36 49; types 52;", "layOff 1", UNSUPPORTED);
    }

    private static void discards() {
        for (String rows : new String[] {DRAW, PLAY, BOUND, ALONE, SHORT}) {
            refused(rows, "discard 53", ARGUMENT);
            refused(rows, "discard -1", ARGUMENT);
            refused(rows, "knock 53", ARGUMENT);
            refused(rows, "knock -1", ARGUMENT);
        }
        refused("deal r 2 141;", "discard 40", UNSUPPORTED);
        refused("deal r 2 141; draw;", "discard 35", UNSUPPORTED);
        refused(BOUND, "discard 17", UNSUPPORTED);
        refused(BOUND, "discard 6", UNSUPPORTED);
        refused(SHORT, "discard 10", UNSUPPORTED);
        refused(SHORT + "put 10 36 49;", "discard 52", UNSUPPORTED);
        refused("packs 2 4; deal r 2 609; pass; take 1; put 41 43 44 45 46 47 48 52;", "discard 0", UNSUPPORTED);
        refused("deal g 2 1208;", "knock 7", UNSUPPORTED);
        refused(ALONE, "knock 14", UNSUPPORTED);
        refused("deal g 2 13915; draw;", "knock 0", UNSUPPORTED);
        refused("packs 1 2; deal r 3 224; draw;", "knock 3", UNSUPPORTED);
        refused("packs 2 4; deal c 2 22900; draw;", "knock 3", UNSUPPORTED);
    }

    private static void claims() {
        for (String rows : new String[] {DRAW, PLAY, FROZEN, ALONE}) {
            refused(rows, "claim 2", BOUNDS);
            refused(rows, "claim -1", BOUNDS);
        }
        refused("deal g 2 825;", "claim 1", UNSUPPORTED);
        refused(DRAW, "claim 0", UNSUPPORTED);
        refused(DRAW + "pass;", "claim 1", UNSUPPORTED);
        refused(PLAY, "claim 1", UNSUPPORTED);
        refused(DRAW + "passes 2; take 0;", "claim 1", UNSUPPORTED);
        refused(FROZEN, "claim 0", UNSUPPORTED);
        refused(CLAIMED, "claim 3", UNSUPPORTED);
        refused(CLAIMED, "claim 0", UNSUPPORTED);
        refused(CLAIMED, "claim 4", BOUNDS);
    }

    /** All calls that the model refuses in a scene, one behind the other on one house. */
    private static void storms() {
        for (String rows : SCENES) {
            Meldhouse house = played(new Meldhouse(), rows);
            Meldhouse other = played(new Meldhouse(), rows);
            int met = 0;
            for (String call : CALLS) {
                Object due = told(played(new Oracle(), rows), call);
                if (String.valueOf(due).startsWith("throws.")) {
                    met++;
                    is(rows + " " + call, told(house, call), due);
                    told(other, call);
                }
            }
            is("calls are refused in " + rows, met > 20, true);
            same("asked behind all of " + rows, looks(house), looks(played(new Meldhouse(), rows)));
            same("going on behind all of " + rows, goesOn(other), goesOn(played(new Meldhouse(), rows)));
        }
    }

    public static void main(String[] args) {
        rules();
        hands();
        deals();
        looked();
        noDeal();
        draws();
        melds();
        layOffs();
        discards();
        claims();
        storms();
        finish();
    }
}
