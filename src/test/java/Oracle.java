import java.util.ArrayList;
import java.util.Collections;
import java.util.HashMap;
import java.util.HashSet;
import java.util.List;
import java.util.Map;
import java.util.NoSuchElementException;
import java.util.Set;
import java.util.TreeSet;

/**
 * The document once more, written for plainness and not for speed, with the Java library: RandomCallsTest holds the
 * class against it. It shares no code with the class.
 */
final class Oracle {
    int packs = 1;
    int jokers = 0;
    char order = 'l';
    boolean twos = false;
    boolean loose = false;
    int limit = 2;
    List<Integer> typed = new ArrayList<>();

    char part = '-';
    char edition;
    int players = 0;
    int turn;
    int z;
    boolean turned;
    int must = -1;
    List<List<Integer>> hands = new ArrayList<>();
    List<Map<Integer, Integer>> known = new ArrayList<>();
    List<Integer> stock = new ArrayList<>();
    List<Integer> pile = new ArrayList<>();
    List<List<Integer>> table = new ArrayList<>();
    List<Integer> owners = new ArrayList<>();
    Set<Integer> claims = new TreeSet<>();
    int[] points = new int[4];
    int deals = 0;
    int voids = 0;

    // ---- cards and melds

    boolean wildCard(int card) {
        return card == 52 || (twos && card % 13 == 1);
    }

    int value(int card) {
        if (wildCard(card)) {
            return 20;
        }
        int rank = card % 13;
        return rank >= 9 ? 10 : rank + 1;
    }

    int value(List<Integer> cards) {
        int sum = 0;
        for (int card : cards) {
            sum += value(card);
        }
        return sum;
    }

    char kindOf(List<Integer> cards) {
        List<Integer> plain = new ArrayList<>();
        for (int card : cards) {
            if (!wildCard(card)) {
                plain.add(card);
            }
        }
        int wilds = cards.size() - plain.size();
        if (cards.size() < 3 || plain.size() < 2 || wilds > limit) {
            return '-';
        }
        Set<Integer> ranks = new TreeSet<>();
        Set<Integer> suits = new TreeSet<>();
        for (int card : plain) {
            ranks.add(card % 13);
            suits.add(card / 13);
        }
        if (ranks.size() == 1) {
            if (loose) {
                return cards.size() <= 8 ? 's' : '-';
            }
            return cards.size() <= 4 && suits.size() == plain.size() ? 's' : '-';
        }
        if (suits.size() == 1 && ranks.size() == plain.size() && cards.size() <= 13 && follow(ranks, cards.size())) {
            return 'r';
        }
        return '-';
    }

    private boolean follow(Set<Integer> ranks, int length) {
        for (int start = 0; start < 14; start++) {
            Set<Integer> window = new TreeSet<>();
            for (int i = 0; i < length; i++) {
                int rank = start + i;
                if (order == 'l' && rank <= 12) {
                    window.add(rank);
                } else if (order == 'h' && rank <= 13) {
                    window.add(rank == 13 ? 0 : rank);
                } else if (order == 'r') {
                    window.add(rank % 13);
                }
            }
            if (window.size() == length && window.containsAll(ranks)) {
                return true;
            }
        }
        return false;
    }

    // ---- hands

    static int compareRows(List<Integer> one, List<Integer> other) {
        for (int i = 0; i < one.size() && i < other.size(); i++) {
            int by = Integer.compare(one.get(i), other.get(i));
            if (by != 0) {
                return by;
            }
        }
        return Integer.compare(one.size(), other.size());
    }

    static int compareWays(List<List<Integer>> one, List<List<Integer>> other) {
        for (int i = 0; i < one.size() && i < other.size(); i++) {
            int by = compareRows(one.get(i), other.get(i));
            if (by != 0) {
                return by;
            }
        }
        return Integer.compare(one.size(), other.size());
    }

    List<Integer> pick(List<Integer> cards, int mask) {
        List<Integer> picked = new ArrayList<>();
        for (int i = 0; i < cards.size(); i++) {
            if ((mask >> i & 1) != 0) {
                picked.add(cards.get(i));
            }
        }
        Collections.sort(picked);
        return picked;
    }

    /** The least deadwood of each part of the cards, by its mask. */
    int[] leastOfParts(List<Integer> cards) {
        int n = cards.size();
        boolean[] isMeld = new boolean[1 << n];
        for (int mask = 0; mask < 1 << n; mask++) {
            isMeld[mask] = kindOf(pick(cards, mask)) != '-';
        }
        int[] least = new int[1 << n];
        for (int mask = 1; mask < 1 << n; mask++) {
            int low = Integer.numberOfTrailingZeros(mask);
            int rest = mask & ~(1 << low);
            least[mask] = value(cards.get(low)) + least[rest];
            for (int sub = rest; sub > 0; sub = (sub - 1) & rest) {
                if (isMeld[sub | 1 << low]) {
                    least[mask] = Math.min(least[mask], least[rest & ~sub]);
                }
            }
        }
        return least;
    }

    int leastOf(List<Integer> cards) {
        return leastOfParts(cards)[(1 << cards.size()) - 1];
    }

    Set<List<List<Integer>>> bestWays(List<Integer> hand) {
        List<Integer> cards = new ArrayList<>(hand);
        Collections.sort(cards);
        int[] least = leastOfParts(cards);
        Map<Integer, List<Integer>> melds = new HashMap<>();
        for (int mask = 0; mask < 1 << cards.size(); mask++) {
            List<Integer> picked = pick(cards, mask);
            if (kindOf(picked) != '-') {
                melds.put(mask, picked);
            }
        }
        Set<List<List<Integer>>> found = new HashSet<>();
        gather(cards, least, melds, (1 << cards.size()) - 1, new ArrayList<>(), found);
        return found;
    }

    private void gather(List<Integer> cards, int[] least, Map<Integer, List<Integer>> melds, int mask,
            List<List<Integer>> way, Set<List<List<Integer>>> found) {
        if (mask == 0) {
            List<List<Integer>> sorted = new ArrayList<>(way);
            sorted.sort(Oracle::compareRows);
            found.add(sorted);
            return;
        }
        int low = Integer.numberOfTrailingZeros(mask);
        int rest = mask & ~(1 << low);
        if (least[rest] + value(cards.get(low)) == least[mask]) {
            gather(cards, least, melds, rest, way, found);
        }
        for (int sub = rest; sub > 0; sub = (sub - 1) & rest) {
            List<Integer> meld = melds.get(sub | 1 << low);
            if (meld != null && least[rest & ~sub] == least[mask]) {
                way.add(meld);
                gather(cards, least, melds, rest & ~sub, way, found);
                way.remove(way.size() - 1);
            }
        }
    }

    List<List<Integer>> firstWay(List<Integer> hand) {
        return Collections.min(bestWays(hand), Oracle::compareWays);
    }

    int leastLaidOff(List<Integer> hand, List<List<Integer>> open) {
        return laidOff(hand, open, 0, (1 << hand.size()) - 1, leastOfParts(hand));
    }

    private int laidOff(List<Integer> hand, List<List<Integer>> open, int meld, int left, int[] least) {
        if (meld == open.size()) {
            return least[left];
        }
        int best = laidOff(hand, open, meld + 1, left, least);
        for (int sub = left; sub > 0; sub = (sub - 1) & left) {
            List<Integer> all = new ArrayList<>(open.get(meld));
            all.addAll(pick(hand, sub));
            if (kindOf(all) != '-') {
                best = Math.min(best, laidOff(hand, open, meld + 1, left & ~sub, least));
            }
        }
        return best;
    }

    // ---- rules and typed cards

    boolean on() {
        return part == 'd' || part == 'p';
    }

    void away() {
        part = '-';
        players = 0;
        hands.clear();
        known.clear();
        stock.clear();
        pile.clear();
        table.clear();
        owners.clear();
        claims.clear();
        must = -1;
    }

    private static void check(boolean holds) {
        if (!holds) {
            throw new IllegalArgumentException();
        }
    }

    private void rest() {
        if (on()) {
            throw new IllegalStateException();
        }
    }

    private void going() {
        if (!on()) {
            throw new IllegalStateException();
        }
    }

    private static void may(boolean holds) {
        if (!holds) {
            throw new UnsupportedOperationException();
        }
    }

    private void player(int player) {
        if (player < 0 || player >= players) {
            throw new IndexOutOfBoundsException();
        }
    }

    private static void card(int card) {
        check(card >= 0 && card <= 52);
    }

    int packs(int newPacks, int newJokers) {
        check((newPacks == 1 || newPacks == 2) && newJokers >= 0 && newJokers <= 4);
        rest();
        away();
        packs = newPacks;
        jokers = newJokers;
        return 52 * packs + jokers;
    }

    char ace(char newOrder) {
        check("lhr".indexOf(newOrder) >= 0);
        rest();
        away();
        char before = order;
        order = newOrder;
        return before;
    }

    int wild(boolean newTwos, boolean newLoose, int newLimit) {
        check(newLimit >= 0 && newLimit <= 4);
        rest();
        away();
        int before = limit;
        twos = newTwos;
        loose = newLoose;
        limit = newLimit;
        return before;
    }

    int worth(int card) {
        card(card);
        return value(card);
    }

    int type(int card) {
        card(card);
        if (typed.size() == 13) {
            throw new IllegalStateException();
        }
        typed.add(card);
        return typed.size();
    }

    int wipe() {
        int before = typed.size();
        typed.clear();
        return before;
    }

    char kind() {
        return kindOf(typed);
    }

    int least() {
        may(typed.size() <= 11);
        return leastOf(typed);
    }

    int ways() {
        may(typed.size() <= 11);
        return bestWays(typed).size();
    }

    int melds() {
        may(typed.size() <= 11);
        return firstWay(typed).size();
    }

    int melded(int meld, int index) {
        may(typed.size() <= 11);
        List<List<Integer>> way = firstWay(typed);
        if (meld < 0 || meld >= way.size() || index < 0 || index >= way.get(meld).size()) {
            throw new NoSuchElementException();
        }
        return way.get(meld).get(index);
    }

    // ---- a deal

    void shuffle(List<Integer> row) {
        for (int k = row.size() - 1; k >= 1; k--) {
            z = z * 1103515245 + 12345;
            Collections.swap(row, k, (z >>> 16) % (k + 1));
        }
    }

    int deal(char newEdition, int newPlayers, int seed) {
        check(newEdition == 'g' || newEdition == 'r' || newEdition == 'c');
        check(newEdition == 'g' ? newPlayers == 2 : newPlayers >= 2 && newPlayers <= 4);
        rest();
        away();
        edition = newEdition;
        players = newPlayers;
        deals++;
        turned = false;
        turn = 0;
        part = 'd';
        z = seed;
        for (int pack = 0; pack < packs; pack++) {
            for (int card = 0; card < 52; card++) {
                stock.add(card);
            }
        }
        for (int i = 0; i < jokers; i++) {
            stock.add(52);
        }
        shuffle(stock);
        int each = edition == 'g' ? 10 : edition == 'r' ? 7 : 9;
        for (int player = 0; player < players; player++) {
            hands.add(new ArrayList<>());
            known.add(new HashMap<>());
        }
        for (int round = 0; round < each; round++) {
            for (int player = 0; player < players; player++) {
                hands.get(player).add(top(stock));
            }
        }
        pile.add(top(stock));
        return stock.size();
    }

    private static int top(List<Integer> row) {
        return row.remove(row.size() - 1);
    }

    int stock() {
        return stock.size();
    }

    int pile() {
        return pile.size();
    }

    int pileAt(int depth) {
        if (depth < 0 || depth >= pile.size()) {
            throw new NoSuchElementException();
        }
        return pile.get(pile.size() - 1 - depth);
    }

    boolean isFrozen() {
        return pile.stream().anyMatch(this::wildCard);
    }

    int held(int player) {
        player(player);
        return hands.get(player).size();
    }

    int hand(int player, int card) {
        player(player);
        card(card);
        return Collections.frequency(hands.get(player), card);
    }

    int turn() {
        going();
        return turn;
    }

    char part() {
        return part;
    }

    private void gain(int player, int card, boolean isKnown) {
        hands.get(player).add(card);
        if (isKnown) {
            known.get(player).merge(card, 1, Integer::sum);
        }
    }

    private void lose(int player, int card) {
        hands.get(player).remove(Integer.valueOf(card));
        if (known.get(player).getOrDefault(card, 0) > 0) {
            known.get(player).merge(card, -1, Integer::sum);
        }
    }

    int draw() {
        going();
        may(part == 'd');
        if (stock.isEmpty() && !turned && pile.size() > 1) {
            turned = true;
            int top = top(pile);
            stock.addAll(pile);
            pile.clear();
            pile.add(top);
            shuffle(stock);
        }
        if (stock.isEmpty()) {
            part = 'v';
            voids++;
            claims.clear();
            return -1;
        }
        int card = top(stock);
        gain(turn, card, false);
        for (int i = 1; i < players; i++) {
            int other = (turn + i) % players;
            if (claims.contains(other)) {
                gain(other, top(pile), true);
                if (!stock.isEmpty()) {
                    gain(other, top(stock), false);
                }
                break;
            }
        }
        claims.clear();
        part = 'p';
        return card;
    }

    int take(int depth) {
        going();
        may(part == 'd' && !isFrozen() && !(edition == 'g' && depth > 0));
        int deepest = pileAt(depth);
        for (int i = 0; i <= depth; i++) {
            gain(turn, top(pile), true);
        }
        must = depth > 0 ? deepest : -1;
        claims.clear();
        part = 'p';
        return depth + 1;
    }

    int must() {
        going();
        if (must < 0) {
            throw new NoSuchElementException();
        }
        return must;
    }

    private boolean holds(List<Integer> cards) {
        List<Integer> hand = new ArrayList<>(hands.get(turn));
        for (Integer card : cards) {
            if (!hand.remove(card)) {
                return false;
            }
        }
        return true;
    }

    private boolean contractMet(char extra) {
        if (edition != 'c') {
            return true;
        }
        String[] contracts = {"s", "r", "ss", "sr", "rr"};
        String wanted = contracts[(deals - 1) % 5];
        StringBuilder have = new StringBuilder();
        have.append(extra);
        for (int i = 0; i < table.size(); i++) {
            if (owners.get(i) == turn) {
                have.append(kindOf(table.get(i)));
            }
        }
        for (char kind : new char[] {'s', 'r'}) {
            if (have.chars().filter(c -> c == kind).count() < wanted.chars().filter(c -> c == kind).count()) {
                return false;
            }
        }
        return true;
    }

    private boolean mayLose(List<Integer> cards, char extra) {
        if (cards.size() < hands.get(turn).size()) {
            return true;
        }
        return (must < 0 || cards.contains(must)) && contractMet(extra);
    }

    private void use(List<Integer> cards) {
        for (int card : cards) {
            lose(turn, card);
        }
        if (cards.contains(must)) {
            must = -1;
        }
        out();
    }

    private boolean out() {
        if (edition == 'g' || !hands.get(turn).isEmpty()) {
            return false;
        }
        for (List<Integer> hand : hands) {
            points[turn] += value(hand);
        }
        part = 'e';
        return true;
    }

    int meld() {
        going();
        char kind = kind();
        may(part == 'p' && edition != 'g' && kind != '-' && holds(typed) && mayLose(typed, kind));
        List<Integer> cards = new ArrayList<>(typed);
        Collections.sort(cards);
        table.add(cards);
        owners.add(turn);
        use(cards);
        typed.clear();
        return table.size() - 1;
    }

    int layOff(int meld) {
        going();
        if (meld < 0 || meld >= table.size()) {
            throw new IndexOutOfBoundsException();
        }
        List<Integer> all = new ArrayList<>(table.get(meld));
        all.addAll(typed);
        Collections.sort(all);
        may(part == 'p' && !typed.isEmpty() && owners.contains(turn) && holds(typed) && kindOf(all) != '-'
                && mayLose(typed, '-'));
        table.set(meld, all);
        use(typed);
        typed.clear();
        return all.size();
    }

    int discard(int card) {
        going();
        card(card);
        may(part == 'p' && hands.get(turn).contains(card) && must < 0);
        may(!owners.contains(turn) || contractMet('-'));
        lose(turn, card);
        pile.add(card);
        if (!out()) {
            turn = (turn + 1) % players;
            part = 'd';
        }
        return turn;
    }

    int knock(int card) {
        going();
        card(card);
        may(part == 'p' && edition == 'g' && hands.get(turn).contains(card));
        List<Integer> own = new ArrayList<>(hands.get(turn));
        own.remove(Integer.valueOf(card));
        int dead = leastOf(own);
        may(dead <= 10);
        lose(turn, card);
        pile.add(card);
        part = 'e';
        int other = 1 - turn;
        if (dead == 0) {
            int gain = 25 + leastOf(hands.get(other));
            points[turn] += gain;
            return gain;
        }
        int rest = leastLaidOff(hands.get(other), firstWay(own));
        if (rest > dead) {
            points[turn] += rest - dead;
            return rest - dead;
        }
        points[other] += dead - rest + 25;
        return -(dead - rest + 25);
    }

    int claim(int player) {
        going();
        player(player);
        may(edition != 'g' && player != turn && part == 'd' && !isFrozen() && !pile.isEmpty());
        may(!claims.contains(player));
        claims.add(player);
        return claims.size();
    }

    int table() {
        return table.size();
    }

    private List<Integer> row(int meld) {
        if (meld < 0 || meld >= table.size()) {
            throw new IndexOutOfBoundsException();
        }
        return table.get(meld);
    }

    int tabled(int meld, int index) {
        List<Integer> row = row(meld);
        if (index < 0 || index >= row.size()) {
            throw new NoSuchElementException();
        }
        return row.get(index);
    }

    int owner(int meld) {
        row(meld);
        return owners.get(meld);
    }

    int deadwood(int player) {
        player(player);
        may(hands.get(player).size() <= 11);
        return leastOf(hands.get(player));
    }

    int known(int player, int card) {
        player(player);
        card(card);
        return known.get(player).getOrDefault(card, 0);
    }

    int points(int player) {
        if (player < 0 || player > 3) {
            throw new IndexOutOfBoundsException();
        }
        return points[player];
    }

    int deals() {
        return deals;
    }

    int voids() {
        return voids;
    }

    long checksum() {
        long sum = 7;
        for (int card = 0; card <= 52; card++) {
            for (List<Integer> hand : hands) {
                sum = 31 * sum + Collections.frequency(hand, card);
            }
        }
        for (int card : pile) {
            sum = 31 * sum + card;
        }
        for (int card : stock) {
            sum = 31 * sum + card;
        }
        return sum;
    }

    float tableShare() {
        if (part == '-') {
            throw new ArithmeticException();
        }
        int number = 0;
        for (List<Integer> row : table) {
            number += row.size();
        }
        return (float) number / (float) (52 * packs + jokers);
    }

    double meanWorth(int player) {
        player(player);
        if (hands.get(player).isEmpty()) {
            throw new ArithmeticException();
        }
        return (double) value(hands.get(player)) / (double) hands.get(player).size();
    }

    boolean isSound() {
        return true;
    }
}
