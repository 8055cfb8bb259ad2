import java.util.NoSuchElementException;

/** A house of draw and discard. README.md says how it is used. */
public final class Meldhouse {
    private static final int RANKS = 13;
    private static final int JOKER = 52;
    private static final int NONE = -1;
    private static final int MOST_TYPED = 13;
    private static final int MOST_SEARCHED = 11;
    private static final int MOST_PLAYERS = 4;
    private static final int MOST_CARDS = 108;
    private static final int MOST_MELDS = 36;
    private static final int MOST_WILD = 4;
    private static final int KNOCK = 10;
    private static final int BONUS = 25;
    private static final int INT_BITS = 32;

    private final Rules rules;
    private final Bag typed;
    private final Search search;
    private final Deal deal;
    private final Row row;
    private final Row points;
    private int deals;
    private int voids;

    public Meldhouse() {
        rules = new Rules();
        typed = new Bag();
        search = new Search(rules);
        deal = new Deal(rules, search);
        row = new Row(MOST_TYPED);
        points = new Row(MOST_PLAYERS);
        deals = 0;
        voids = 0;
    }

    public int packs(int packs, int jokers) throws IllegalArgumentException, IllegalStateException {
        if (packs < 1 || packs > 2 || jokers < 0 || jokers > MOST_WILD) {
            throw new IllegalArgumentException("packs are 1 or 2, jokers 0 to 4");
        }
        needNoDeal();
        rules.packs = packs;
        rules.jokers = jokers;
        takeOldAway();
        return rules.cardsInAll();
    }

    public char ace(char order) throws IllegalArgumentException, IllegalStateException {
        if (order != 'l' && order != 'h' && order != 'r') {
            throw new IllegalArgumentException("no such order of the ace");
        }
        needNoDeal();
        char before = rules.order;
        rules.order = order;
        takeOldAway();
        return before;
    }

    public int wild(boolean twos, boolean isLoose, int limit)
            throws IllegalArgumentException, IllegalStateException {
        if (limit < 0 || limit > MOST_WILD) {
            throw new IllegalArgumentException("the limit of wild cards is 0 to 4");
        }
        needNoDeal();
        int before = rules.limit;
        rules.twos = twos;
        rules.isLoose = isLoose;
        rules.limit = limit;
        takeOldAway();
        return before;
    }

    public int worth(int card) throws IllegalArgumentException {
        needCard(card);
        return rules.worthOf(card);
    }

    public int type(int card) throws IllegalArgumentException, IllegalStateException {
        needCard(card);
        if (typed.size() >= MOST_TYPED) {
            throw new IllegalStateException("there are 13 typed cards");
        }
        typed.add(card);
        return typed.size();
    }

    public int wipe() {
        int before = typed.size();
        typed.clear();
        return before;
    }

    public char kind() {
        row.clear();
        typed.pourInto(row);
        return search.shape.kindOf(row);
    }

    public int least() throws UnsupportedOperationException {
        needFewTyped();
        return search.leastOf(typed);
    }

    public int ways() throws UnsupportedOperationException {
        needFewTyped();
        return search.waysOf(typed);
    }

    public int melds() throws UnsupportedOperationException {
        needFewTyped();
        return search.meldsOf(typed);
    }

    public int melded(int meld, int index) throws UnsupportedOperationException, NoSuchElementException {
        needFewTyped();
        row.clear();
        search.pourMeld(typed, meld, row);
        if (index < 0 || index >= row.size()) {
            throw new NoSuchElementException("no such meld or card");
        }
        return row.at(index);
    }

    public int deal(char edition, int players, int z)
            throws IllegalArgumentException, IllegalStateException {
        if (!rules.isDealable(edition, players)) {
            throw new IllegalArgumentException("no such edition, or not for so many");
        }
        needNoDeal();
        deal.begin(edition, players, z, deals);
        deals++;
        return deal.deck.stock.size();
    }

    public int stock() {
        return deal.deck.stock.size();
    }

    public int pile() {
        return deal.deck.pile.size();
    }

    public int pileAt(int depth) throws NoSuchElementException {
        if (!deal.deck.reaches(depth)) {
            throw new NoSuchElementException("no such card in the pile");
        }
        return deal.deck.cardBelow(depth);
    }

    public boolean isFrozen() {
        return deal.deck.isBlocked(rules);
    }

    public int held(int player) throws IndexOutOfBoundsException {
        needPlayer(player);
        return deal.seats.handOf(player).size();
    }

    public int hand(int player, int card) throws IndexOutOfBoundsException, IllegalArgumentException {
        needPlayer(player);
        needCard(card);
        return deal.seats.handOf(player).count(card);
    }

    public int turn() throws IllegalStateException {
        needDeal();
        return deal.turn;
    }

    public char part() {
        return deal.part;
    }

    public int draw() throws IllegalStateException, UnsupportedOperationException {
        needDeal();
        if (deal.part != 'd') {
            throw new UnsupportedOperationException("a card was drawn or taken");
        }
        int card = deal.drawCard();
        if (card == NONE) {
            voids++;
        }
        return card;
    }

    public int take(int depth)
            throws IllegalStateException, UnsupportedOperationException, NoSuchElementException {
        needDeal();
        if (!deal.mayTake(depth)) {
            throw new UnsupportedOperationException("not to be taken");
        }
        if (!deal.deck.reaches(depth)) {
            throw new NoSuchElementException("no such card in the pile");
        }
        return deal.takeDownTo(depth);
    }

    public int must() throws IllegalStateException, NoSuchElementException {
        needDeal();
        if (deal.must == NONE) {
            throw new NoSuchElementException("no card must be used");
        }
        return deal.must;
    }

    public int meld() throws IllegalStateException, UnsupportedOperationException {
        needDeal();
        if (!deal.mayMeld(typed)) {
            throw new UnsupportedOperationException("these cards are not to be melded");
        }
        int meld = deal.putMeld(typed);
        typed.clear();
        endIfOut();
        return meld;
    }

    public int layOff(int meld)
            throws IllegalStateException, IndexOutOfBoundsException, UnsupportedOperationException {
        needDeal();
        needMeld(meld);
        if (!deal.mayLayOff(meld, typed)) {
            throw new UnsupportedOperationException("these cards are not to be laid off there");
        }
        int size = deal.addToMeld(meld, typed);
        typed.clear();
        endIfOut();
        return size;
    }

    public int discard(int card)
            throws IllegalStateException, IllegalArgumentException, UnsupportedOperationException {
        needDeal();
        needCard(card);
        if (!deal.mayDiscard(card)) {
            throw new UnsupportedOperationException("this card is not to be discarded");
        }
        deal.shed(card);
        if (!endIfOut()) {
            deal.passTurn();
        }
        return deal.turn;
    }

    public int knock(int card)
            throws IllegalStateException, IllegalArgumentException, UnsupportedOperationException {
        needDeal();
        needCard(card);
        if (!deal.mayKnock(card)) {
            throw new UnsupportedOperationException("no knock with this card");
        }
        int gain = deal.knockWith(card);
        if (gain > 0) {
            score(deal.turn, gain);
        } else {
            score(deal.behind(1), -gain);
        }
        return gain;
    }

    public int claim(int player)
            throws IllegalStateException, IndexOutOfBoundsException, UnsupportedOperationException {
        needDeal();
        needPlayer(player);
        if (!deal.mayClaim(player)) {
            throw new UnsupportedOperationException("not to be claimed");
        }
        deal.claims = deal.claims | 1 << player;
        return Integer.bitCount(deal.claims);
    }

    public int table() {
        return deal.table.size();
    }

    public int tabled(int meld, int index) throws IndexOutOfBoundsException, NoSuchElementException {
        needMeld(meld);
        Row cards = deal.table.rowOf(meld);
        if (index < 0 || index >= cards.size()) {
            throw new NoSuchElementException("no such card in the meld");
        }
        return cards.at(index);
    }

    public int owner(int meld) throws IndexOutOfBoundsException {
        needMeld(meld);
        return deal.table.ownerOf(meld);
    }

    public int deadwood(int player) throws IndexOutOfBoundsException, UnsupportedOperationException {
        needPlayer(player);
        Bag hand = deal.seats.handOf(player);
        if (hand.size() > MOST_SEARCHED) {
            throw new UnsupportedOperationException("more than 11 cards");
        }
        return search.leastOf(hand);
    }

    public int known(int player, int card) throws IndexOutOfBoundsException, IllegalArgumentException {
        needPlayer(player);
        needCard(card);
        return deal.seats.seenOf(player).count(card);
    }

    public int points(int player) throws IndexOutOfBoundsException {
        if (player < 0 || player >= MOST_PLAYERS) {
            throw new IndexOutOfBoundsException("players are 0 to 3");
        }
        return points.at(player);
    }

    public int deals() {
        return deals;
    }

    public int voids() {
        return voids;
    }

    public long checksum() {
        long sum = 7;
        for (int card = 0; card <= JOKER; card++) {
            for (int player = 0; player < deal.players; player++) {
                sum = 31 * sum + deal.seats.handOf(player).count(card);
            }
        }
        return deal.deck.stock.sumBehind(deal.deck.pile.sumBehind(sum));
    }

    public float tableShare() throws ArithmeticException {
        int all = deal.part == '-' ? 0 : rules.cardsInAll();
        if (all == 0) {
            throw new ArithmeticException("no deal");
        }
        return (float) deal.table.cardsInAll() / (float) all;
    }

    public double meanWorth(int player) throws IndexOutOfBoundsException, ArithmeticException {
        needPlayer(player);
        Bag hand = deal.seats.handOf(player);
        if (hand.size() == 0) {
            throw new ArithmeticException("no cards");
        }
        return (double) hand.worthBy(rules) / (double) hand.size();
    }

    public boolean isSound() {
        return deal.part == '-'
                || deal.isWhole() && deal.isMelded() && deal.seats.isSeenHeld() && deal.isSearchAgreed();
    }

    private void needCard(int card) {
        if (card < 0 || card > JOKER) {
            throw new IllegalArgumentException("no such card");
        }
    }

    private void needPlayer(int player) {
        if (player < 0 || player >= deal.players) {
            throw new IndexOutOfBoundsException("no such player");
        }
    }

    private void needMeld(int meld) {
        if (meld < 0 || meld >= deal.table.size()) {
            throw new IndexOutOfBoundsException("no such meld");
        }
    }

    private void needDeal() {
        if (!deal.isOn()) {
            throw new IllegalStateException("no deal, or it is over");
        }
    }

    private void needNoDeal() {
        if (deal.isOn()) {
            throw new IllegalStateException("a deal goes on");
        }
    }

    private void needFewTyped() {
        if (typed.size() > MOST_SEARCHED) {
            throw new UnsupportedOperationException("more than 11 typed cards");
        }
    }

    private void takeOldAway() {
        search.forget();
        deal.clear();
    }

    private boolean endIfOut() {
        boolean isOut = deal.isOut();
        if (isOut) {
            score(deal.turn, deal.heldByOthers());
            deal.part = 'e';
        }
        return isOut;
    }

    private void score(int player, int gain) {
        points.put(player, points.at(player) + gain);
    }

    /** A row of numbers with fixed room: no index outside it is ever used, so nothing here can throw. */
    private static final class Row {
        private final int[] cells;
        private int size;

        Row(int room) {
            cells = new int[room > 0 ? room : 0];
            size = 0;
        }

        int size() {
            return size;
        }

        int at(int index) {
            return index >= 0 && index < cells.length ? cells[index] : 0;
        }

        void put(int index, int value) {
            if (index >= 0 && index < cells.length) {
                cells[index] = value;
            }
        }

        void add(int value) {
            if (size < cells.length) {
                put(size, value);
                size++;
            }
        }

        int pop() {
            if (size <= 0) {
                return NONE;
            }
            size--;
            return at(size);
        }

        void clear() {
            size = 0;
        }

        void cutTo(int length) {
            if (length >= 0 && length < size) {
                size = length;
            }
        }

        void fill(int value, int count) {
            for (int i = 0; i < count && i < cells.length; i++) {
                cells[i] = value;
            }
        }

        void swap(int one, int other) {
            int value = at(one);
            put(one, at(other));
            put(other, value);
        }

        void insertRising(int value) {
            add(value);
            for (int i = size - 1; i > 0 && at(i - 1) > at(i); i--) {
                swap(i - 1, i);
            }
        }

        void copyFrom(Row other) {
            clear();
            for (int i = 0; i < other.size; i++) {
                add(other.at(i));
            }
        }

        long sumBehind(long sum) {
            long all = sum;
            for (int i = 0; i < size; i++) {
                all = 31 * all + at(i);
            }
            return all;
        }
    }

    /** What is set of packs, wild cards and melds. */
    private static final class Rules {
        int packs;
        int jokers;
        int limit;
        char order;
        boolean twos;
        boolean isLoose;

        Rules() {
            packs = 1;
            jokers = 0;
            limit = 2;
            order = 'l';
            twos = false;
            isLoose = false;
        }

        int cardsInAll() {
            return JOKER * packs + jokers;
        }

        int copiesOf(int card) {
            return card == JOKER ? jokers : packs;
        }

        boolean isWild(int card) {
            return card == JOKER || twos && card % RANKS == 1;
        }

        int worthOf(int card) {
            if (isWild(card)) {
                return 20;
            }
            return Math.min(card % RANKS + 1, 10);
        }

        int handSize(char edition) {
            if (edition == 'g') {
                return 10;
            }
            return edition == 'r' ? 7 : edition == 'c' ? 9 : 0;
        }

        boolean isDealable(char edition, int players) {
            int most = edition == 'g' ? 2 : MOST_PLAYERS;
            int size = handSize(edition);
            return size > 0 && players >= 2 && players <= most && players * size + 2 <= cardsInAll();
        }
    }

    /** What a row of cards is as a meld, and whether more cards could make it one. */
    private static final class Shape {
        private final Rules rules;
        private int size;
        private int naturals;
        private int ranks;
        private int suits;

        Shape(Rules rules) {
            this.rules = rules;
            size = 0;
            naturals = 0;
            ranks = 0;
            suits = 0;
        }

        char kindOf(Row cards) {
            read(cards);
            return kindRead();
        }

        void read(Row cards) {
            size = cards.size();
            naturals = 0;
            ranks = 0;
            suits = 0;
            for (int i = 0; i < size; i++) {
                int card = cards.at(i);
                if (!rules.isWild(card)) {
                    naturals++;
                    ranks = ranks | 1 << card % RANKS;
                    suits = suits | 1 << card / RANKS;
                }
            }
        }

        char kindRead() {
            if (size < 3 || naturals < 2 || size - naturals > rules.limit) {
                return '-';
            }
            if (isLikeSet()) {
                return 's';
            }
            return isLikeRun() && isClose() ? 'r' : '-';
        }

        /** Whether nothing but the number of cards, or gaps in a run, keeps it from being a meld. */
        boolean isOpen() {
            return size - naturals <= rules.limit && (naturals < 2 || isLikeSet() || isLikeRun());
        }

        private boolean isLikeSet() {
            boolean isTight = size <= 4 && Integer.bitCount(suits) == naturals;
            return Integer.bitCount(ranks) == 1 && (rules.isLoose ? size <= 8 : isTight);
        }

        private boolean isLikeRun() {
            return size <= RANKS && Integer.bitCount(suits) == 1 && Integer.bitCount(ranks) == naturals;
        }

        /** No window of at most 13 ranks holds a rank twice, so one with as many cards holds them all. */
        private boolean isClose() {
            int above = rules.order == 'r' ? ranks : rules.order == 'h' ? ranks & 1 : 0;
            int line = ranks | above << RANKS;
            int window = (1 << size) - 1;
            for (int start = 0; start < RANKS; start++) {
                if (Integer.bitCount(line >>> start & window) == naturals) {
                    return true;
                }
            }
            return false;
        }
    }

    /** Cards without an order: how many there are of each. */
    private static final class Bag {
        private final Row counts;
        private int size;

        Bag() {
            counts = new Row(JOKER + 1);
            size = 0;
        }

        int size() {
            return size;
        }

        int count(int card) {
            return counts.at(card);
        }

        void add(int card) {
            if (card >= 0 && card <= JOKER) {
                counts.put(card, counts.at(card) + 1);
                size++;
            }
        }

        void remove(int card) {
            if (counts.at(card) > 0) {
                counts.put(card, counts.at(card) - 1);
                size--;
            }
        }

        void clear() {
            counts.fill(0, JOKER + 1);
            size = 0;
        }

        void copyFrom(Bag other) {
            for (int card = 0; card <= JOKER; card++) {
                counts.put(card, other.count(card));
            }
            size = other.size;
        }

        boolean holds(Bag other) {
            for (int card = 0; card <= JOKER; card++) {
                if (count(card) < other.count(card)) {
                    return false;
                }
            }
            return true;
        }

        void pourInto(Row cards) {
            for (int card = 0; card <= JOKER; card++) {
                for (int i = 0; i < count(card); i++) {
                    cards.add(card);
                }
            }
        }

        int worthBy(Rules rules) {
            int worth = 0;
            for (int card = 0; card <= JOKER; card++) {
                worth += count(card) * rules.worthOf(card);
            }
            return worth;
        }
    }

    /**
     * A hand of at most 11 cards as numbers. Each unlike card has a field of bits in one int, with a guard bit
     * above it, so that one subtraction tells whether cards are among others; and each has a step, so that every
     * part of the hand has a place of its own below 2048, like cards not told apart.
     */
    private static final class Code {
        private final Row cards;
        private final Row counts;
        private final Row shifts;
        private final Row steps;
        private int guards;
        private int full;
        private int places;

        Code() {
            cards = new Row(MOST_SEARCHED);
            counts = new Row(MOST_SEARCHED);
            shifts = new Row(MOST_SEARCHED);
            steps = new Row(MOST_SEARCHED);
            guards = 0;
            full = 0;
            places = 1;
        }

        boolean isOf(Bag hand) {
            int size = 0;
            for (int kind = 0; kind < cards.size(); kind++) {
                size += counts.at(kind);
                if (hand.count(cards.at(kind)) != counts.at(kind)) {
                    return false;
                }
            }
            return size == hand.size();
        }

        void load(Bag hand) {
            cards.clear();
            counts.clear();
            shifts.clear();
            steps.clear();
            guards = 0;
            full = 0;
            places = 1;
            int shift = 0;
            for (int card = 0; card <= JOKER; card++) {
                int count = hand.count(card);
                if (count > 0) {
                    cards.add(card);
                    counts.add(count);
                    shifts.add(shift);
                    steps.add(places);
                    places *= count + 1;
                    full = full | count << shift;
                    shift += INT_BITS - Integer.numberOfLeadingZeros(count);
                    guards = guards | 1 << shift;
                    shift++;
                }
            }
        }

        boolean isAmong(int part, int left) {
            return ((left | guards) - part & guards) == guards;
        }

        int lowest(int left) {
            int bit = Integer.numberOfTrailingZeros(left);
            int kind = 0;
            while (kind + 1 < shifts.size() && shifts.at(kind + 1) <= bit) {
                kind++;
            }
            return kind;
        }

        int countIn(int left, int kind) {
            int width = INT_BITS - Integer.numberOfLeadingZeros(counts.at(kind));
            return left >>> shifts.at(kind) & (1 << width) - 1;
        }

        /** The packed part of the hand that has this place. */
        int partAt(int place) {
            int part = 0;
            int rest = place;
            for (int kind = cards.size() - 1; kind >= 0; kind--) {
                int step = steps.at(kind);
                int count = step > 0 ? rest / step : 0;
                part = part | count << shifts.at(kind);
                rest -= count * step;
            }
            return part;
        }

        int worthOf(int part, Rules rules) {
            int worth = 0;
            for (int kind = 0; kind < cards.size(); kind++) {
                worth += countIn(part, kind) * rules.worthOf(cards.at(kind));
            }
            return worth;
        }

        void pourInto(int part, Row target) {
            for (int kind = 0; kind < cards.size(); kind++) {
                int count = countIn(part, kind);
                for (int i = 0; i < count; i++) {
                    target.add(cards.at(kind));
                }
            }
        }
    }

    /**
     * The least deadwood of a hand and the ways to it. What was found stays until other cards or rules come. The
     * melds are listed in their order, those with the lowest card first, so that a way is followed by taking or
     * leaving the lowest card that is left, and each way is met once.
     */
    private static final class Search {
        private static final int PLACES = 2048;
        private static final int DEEPEST = 16;

        private final Rules rules;
        private final Shape shape;
        private final Code code;
        private final Row parts;
        private final Row moves;
        private final Row worths;
        private final Row starts;
        private final Row most;
        private final Row stages;
        private final Row chosen;
        private final Row path;
        private final Row first;
        private int ways;
        private boolean isListed;
        private boolean isFollowed;

        Search(Rules rules) {
            this.rules = rules;
            shape = new Shape(rules);
            code = new Code();
            parts = new Row(PLACES);
            moves = new Row(PLACES);
            worths = new Row(PLACES);
            starts = new Row(MOST_SEARCHED + 1);
            most = new Row(PLACES);
            stages = new Row(PLACES);
            chosen = new Row(2 * MOST_TYPED);
            path = new Row(MOST_SEARCHED);
            first = new Row(MOST_SEARCHED);
            ways = 0;
            isListed = false;
            isFollowed = false;
        }

        void forget() {
            isListed = false;
        }

        int leastOf(Bag hand) {
            load(hand);
            int sum = hand.worthBy(rules);
            return sum - mostOf(code.full, code.places - 1, sum, 0);
        }

        int waysOf(Bag hand) {
            followAll(hand);
            return ways;
        }

        int meldsOf(Bag hand) {
            followAll(hand);
            return first.size();
        }

        void pourMeld(Bag hand, int meld, Row target) {
            followAll(hand);
            if (meld >= 0 && meld < first.size()) {
                code.pourInto(parts.at(first.at(meld)), target);
            }
        }

        /** The least deadwood of what is left when cards of the hand may be laid off to open melds. */
        int leastBehind(Bag hand, Spread open) {
            load(hand);
            int own = parts.size();
            stages.fill(MOST_MELDS, code.places);
            stages.put(code.places - 1, 0);
            for (int meld = 0; meld < open.size(); meld++) {
                chosen.copyFrom(open.rowOf(meld));
                grow(0, 0, 0, 0, 0);
                spreadStage(own, meld + 1);
                parts.cutTo(own);
                moves.cutTo(own);
                worths.cutTo(own);
            }
            int least = hand.worthBy(rules);
            for (int place = 0; place < code.places; place++) {
                if (stages.at(place) < MOST_MELDS) {
                    int left = code.partAt(place);
                    int sum = code.worthOf(left, rules);
                    least = Math.min(least, sum - mostOf(left, place, sum, 0));
                }
            }
            return least;
        }

        /** A place has as stage the number of the open meld by which it can be left; each is laid off to once. */
        private void spreadStage(int own, int stage) {
            for (int place = 0; place < code.places; place++) {
                if (stages.at(place) < stage) {
                    int left = code.partAt(place);
                    for (int i = own; i < parts.size(); i++) {
                        int to = place - moves.at(i);
                        if (code.isAmong(parts.at(i), left) && stages.at(to) > stage) {
                            stages.put(to, stage);
                        }
                    }
                }
            }
        }

        private void load(Bag hand) {
            if (isListed && code.isOf(hand)) {
                return;
            }
            isListed = true;
            isFollowed = false;
            code.load(hand);
            parts.clear();
            moves.clear();
            worths.clear();
            for (int kind = 0; kind < code.cards.size(); kind++) {
                int card = code.cards.at(kind);
                starts.put(kind, parts.size());
                chosen.clear();
                chosen.add(card);
                grow(kind, 1 << code.shifts.at(kind), code.steps.at(kind), rules.worthOf(card), 0);
            }
            starts.put(code.cards.size(), parts.size());
            most.fill(NONE, code.places);
        }

        /** Lists, in their order, the melds that the chosen cards become with more of the hand from a kind on. */
        private void grow(int from, int part, int move, int worth, int depth) {
            if (depth > DEEPEST) {
                return;
            }
            for (int kind = from; kind < code.cards.size(); kind++) {
                int more = part + (1 << code.shifts.at(kind));
                if (code.isAmong(more, code.full)) {
                    chosen.add(code.cards.at(kind));
                    shape.read(chosen);
                    if (shape.isOpen()) {
                        int to = move + code.steps.at(kind);
                        int sum = worth + rules.worthOf(code.cards.at(kind));
                        if (shape.kindRead() != '-') {
                            parts.add(more);
                            moves.add(to);
                            worths.add(sum);
                        }
                        grow(kind, more, to, sum, depth + 1);
                    }
                    chosen.pop();
                }
            }
        }

        /** The most worth that can be melded of what is left, whose worth is the sum: with that it stops early. */
        private int mostOf(int left, int place, int sum, int depth) {
            if (left == 0 || depth > DEEPEST) {
                return 0;
            }
            if (most.at(place) != NONE) {
                return most.at(place);
            }
            int kind = code.lowest(left);
            int end = starts.at(kind + 1);
            int top = 0;
            for (int i = starts.at(kind); i < end && top < sum; i++) {
                if (code.isAmong(parts.at(i), left)) {
                    int worth = worths.at(i);
                    int rest = mostOf(left - parts.at(i), place - moves.at(i), sum - worth, depth + 1);
                    top = Math.max(top, worth + rest);
                }
            }
            int idle = code.countIn(left, kind);
            int without = sum - idle * rules.worthOf(code.cards.at(kind));
            if (top < without) {
                int to = place - idle * code.steps.at(kind);
                top = Math.max(top, mostOf(left - (idle << code.shifts.at(kind)), to, without, depth + 1));
            }
            most.put(place, top);
            return top;
        }

        private void followAll(Bag hand) {
            load(hand);
            if (!isFollowed) {
                isFollowed = true;
                ways = 0;
                path.clear();
                first.clear();
                int sum = hand.worthBy(rules);
                int place = code.places - 1;
                follow(code.full, place, sum, mostOf(code.full, place, sum, 0), 0, 0);
            }
        }

        /** Meets the ways that meld what lacks, no worth less; like melds come in their order, so from one on. */
        private void follow(int left, int place, int sum, int lack, int from, int depth) {
            if (lack == 0) {
                if (ways == 0) {
                    first.copyFrom(path);
                }
                ways++;
                return;
            }
            if (left == 0 || depth > DEEPEST) {
                return;
            }
            int kind = code.lowest(left);
            int end = starts.at(kind + 1);
            for (int i = Math.max(from, starts.at(kind)); i < end; i++) {
                if (code.isAmong(parts.at(i), left)) {
                    int rest = left - parts.at(i);
                    int to = place - moves.at(i);
                    int worth = worths.at(i);
                    if (mostOf(rest, to, sum - worth, 0) == lack - worth) {
                        path.add(i);
                        follow(rest, to, sum - worth, lack - worth, i, depth + 1);
                        path.pop();
                    }
                }
            }
            int idle = code.countIn(left, kind);
            int rest = left - (idle << code.shifts.at(kind));
            int to = place - idle * code.steps.at(kind);
            int without = sum - idle * rules.worthOf(code.cards.at(kind));
            if (without >= lack && mostOf(rest, to, without, 0) == lack) {
                follow(rest, to, without, lack, from, depth + 1);
            }
        }
    }

    /** The least deadwood once more, card by card, of at most 8 cards: so there are two melds at the most. */
    private static final class Plain {
        private static final int MOST = 8;

        private final Rules rules;
        private final Shape shape;
        private final Row cards;
        private final Row one;
        private final Row other;
        private int least;

        Plain(Rules rules) {
            this.rules = rules;
            shape = new Shape(rules);
            cards = new Row(MOST);
            one = new Row(MOST);
            other = new Row(MOST);
            least = 0;
        }

        int leastOf(Bag hand) {
            cards.clear();
            one.clear();
            other.clear();
            hand.pourInto(cards);
            least = hand.worthBy(rules);
            place(0, 0);
            return least;
        }

        private void place(int index, int dead) {
            if (dead >= least || index > MOST) {
                return;
            }
            if (index >= cards.size()) {
                if (isDone(one) && isDone(other)) {
                    least = dead;
                }
                return;
            }
            join(one, index, dead);
            if (one.size() > 0) {
                join(other, index, dead);
            }
            place(index + 1, dead + rules.worthOf(cards.at(index)));
        }

        private void join(Row group, int index, int dead) {
            group.add(cards.at(index));
            shape.read(group);
            if (shape.isOpen()) {
                place(index + 1, dead);
            }
            group.pop();
        }

        private boolean isDone(Row group) {
            return group.size() == 0 || shape.kindOf(group) != '-';
        }
    }

    /** Melds that lie open, each with who put it there. */
    private static final class Spread {
        private final Row[] rows;
        private final Row none;
        private final Row owners;
        private int size;

        Spread(int room) {
            rows = new Row[room > 0 ? room : 0];
            for (int i = 0; i < rows.length; i++) {
                rows[i] = new Row(MOST_TYPED);
            }
            none = new Row(0);
            owners = new Row(room);
            size = 0;
        }

        int size() {
            return size;
        }

        void clear() {
            size = 0;
        }

        Row rowOf(int meld) {
            return meld >= 0 && meld < rows.length ? rows[meld] : none;
        }

        int ownerOf(int meld) {
            return owners.at(meld);
        }

        /** The row of a new meld, to be filled. */
        Row open(int owner) {
            Row fresh = rowOf(size);
            fresh.clear();
            owners.put(size, owner);
            if (size < rows.length) {
                size++;
            }
            return fresh;
        }

        boolean isOfAny(int owner) {
            for (int meld = 0; meld < size; meld++) {
                if (ownerOf(meld) == owner) {
                    return true;
                }
            }
            return false;
        }

        int cardsInAll() {
            int all = 0;
            for (int meld = 0; meld < size; meld++) {
                all += rowOf(meld).size();
            }
            return all;
        }
    }

    /** The stock and the pile, each from the bottom up, and z, which goes on through a deal. */
    private static final class Deck {
        private final Row stock;
        private final Row pile;
        private int z;
        private boolean isTurned;

        Deck() {
            stock = new Row(MOST_CARDS);
            pile = new Row(MOST_CARDS);
            z = 0;
            isTurned = false;
        }

        void clear() {
            stock.clear();
            pile.clear();
        }

        void begin(Rules rules, int seed) {
            clear();
            for (int pack = 0; pack < rules.packs; pack++) {
                for (int card = 0; card < JOKER; card++) {
                    stock.add(card);
                }
            }
            for (int i = 0; i < rules.jokers; i++) {
                stock.add(JOKER);
            }
            z = seed;
            isTurned = false;
            shuffle();
        }

        private void shuffle() {
            for (int k = stock.size() - 1; k >= 1; k--) {
                z = z * 1103515245 + 12345;
                stock.swap(k, (z >>> 16) % (k + 1));
            }
        }

        boolean reaches(int depth) {
            return depth >= 0 && depth < pile.size();
        }

        int cardBelow(int depth) {
            return pile.at(pile.size() - 1 - depth);
        }

        boolean isBlocked(Rules rules) {
            for (int i = 0; i < pile.size(); i++) {
                if (rules.isWild(pile.at(i))) {
                    return true;
                }
            }
            return false;
        }

        /** Whether there is a card to draw, the pile being turned for it if need be and not yet done. */
        boolean isReady() {
            if (stock.size() == 0 && !isTurned && pile.size() > 0) {
                isTurned = true;
                int top = pile.pop();
                stock.copyFrom(pile);
                pile.clear();
                pile.add(top);
                shuffle();
            }
            return stock.size() > 0;
        }
    }

    /** The hands of the players, and what all know of them. */
    private static final class Seats {
        private final Bag[] hands;
        private final Bag[] seen;
        private final Bag none;

        Seats() {
            hands = new Bag[MOST_PLAYERS];
            seen = new Bag[MOST_PLAYERS];
            none = new Bag();
            for (int i = 0; i < hands.length && i < seen.length; i++) {
                hands[i] = new Bag();
                seen[i] = new Bag();
            }
        }

        void clear() {
            for (int player = 0; player < MOST_PLAYERS; player++) {
                handOf(player).clear();
                seenOf(player).clear();
            }
        }

        Bag handOf(int player) {
            return player >= 0 && player < hands.length ? hands[player] : none;
        }

        Bag seenOf(int player) {
            return player >= 0 && player < seen.length ? seen[player] : none;
        }

        void gain(int player, int card) {
            handOf(player).add(card);
        }

        void gainSeen(int player, int card) {
            handOf(player).add(card);
            seenOf(player).add(card);
        }

        void lose(int player, int card) {
            handOf(player).remove(card);
            seenOf(player).remove(card);
        }

        int countOf(int card) {
            int count = 0;
            for (int player = 0; player < MOST_PLAYERS; player++) {
                count += handOf(player).count(card);
            }
            return count;
        }

        boolean isSeenHeld() {
            for (int player = 0; player < MOST_PLAYERS; player++) {
                if (!handOf(player).holds(seenOf(player))) {
                    return false;
                }
            }
            return true;
        }
    }

    /** A deal, or, while its part is '-', none. */
    private static final class Deal {
        private static final int CONTRACTS = 5;
        private static final int[] CONTRACT_SETS = {1, 0, 2, 1, 0};
        private static final int[] CONTRACT_RUNS = {0, 1, 0, 1, 2};

        private final Rules rules;
        private final Search search;
        private final Plain plain;
        private final Shape shape;
        private final Deck deck;
        private final Seats seats;
        private final Spread table;
        private final Spread open;
        private final Bag trial;
        private final Bag places;
        private final Row row;
        private char edition;
        private char part;
        private int players;
        private int contract;
        private int turn;
        private int must;
        private int claims;

        Deal(Rules rules, Search search) {
            this.rules = rules;
            this.search = search;
            plain = new Plain(rules);
            shape = new Shape(rules);
            deck = new Deck();
            seats = new Seats();
            table = new Spread(MOST_MELDS);
            open = new Spread(MOST_SEARCHED);
            trial = new Bag();
            places = new Bag();
            row = new Row(2 * MOST_TYPED);
            edition = '-';
            part = '-';
            players = 0;
            contract = 0;
            turn = 0;
            must = NONE;
            claims = 0;
        }

        boolean isOn() {
            return part == 'd' || part == 'p';
        }

        void clear() {
            part = '-';
            players = 0;
            must = NONE;
            claims = 0;
            deck.clear();
            seats.clear();
            table.clear();
        }

        void begin(char newEdition, int newPlayers, int z, int number) {
            clear();
            edition = newEdition;
            players = newPlayers;
            contract = number % CONTRACTS;
            turn = 0;
            part = 'd';
            deck.begin(rules, z);
            int cards = players * rules.handSize(edition);
            for (int i = 0; i < cards; i++) {
                seats.gain(behind(i), deck.stock.pop());
            }
            deck.pile.add(deck.stock.pop());
        }

        /** The player so many places behind the one whose turn it is. */
        int behind(int places) {
            return players > 0 ? (turn + places) % players : 0;
        }

        Bag ownHand() {
            return seats.handOf(turn);
        }

        int drawCard() {
            int claimant = firstClaimant();
            claims = 0;
            if (!deck.isReady()) {
                part = 'v';
                return NONE;
            }
            int card = deck.stock.pop();
            seats.gain(turn, card);
            if (claimant != NONE) {
                seats.gainSeen(claimant, deck.pile.pop());
                if (deck.stock.size() > 0) {
                    seats.gain(claimant, deck.stock.pop());
                }
            }
            part = 'p';
            return card;
        }

        private int firstClaimant() {
            for (int i = 1; i < players; i++) {
                int player = behind(i);
                if ((claims >>> player & 1) != 0) {
                    return player;
                }
            }
            return NONE;
        }

        boolean mayTake(int depth) {
            return part == 'd' && !deck.isBlocked(rules) && (depth <= 0 || edition != 'g');
        }

        int takeDownTo(int depth) {
            must = depth > 0 ? deck.cardBelow(depth) : NONE;
            for (int taken = 0; taken <= depth && taken < MOST_CARDS; taken++) {
                seats.gainSeen(turn, deck.pile.pop());
            }
            claims = 0;
            part = 'p';
            return depth + 1;
        }

        boolean mayClaim(int player) {
            return edition != 'g' && part == 'd' && player != turn && deck.pile.size() > 0
                    && !deck.isBlocked(rules) && (claims >>> player & 1) == 0;
        }

        boolean mayMeld(Bag cards) {
            if (part != 'p' || edition == 'g' || !ownHand().holds(cards)) {
                return false;
            }
            row.clear();
            cards.pourInto(row);
            char kind = shape.kindOf(row);
            return kind != '-' && mayGive(cards, kind);
        }

        int putMeld(Bag cards) {
            int meld = table.size();
            cards.pourInto(table.open(turn));
            give(cards);
            return meld;
        }

        boolean mayLayOff(int meld, Bag cards) {
            if (part != 'p' || cards.size() == 0 || !table.isOfAny(turn) || !ownHand().holds(cards)) {
                return false;
            }
            row.copyFrom(table.rowOf(meld));
            cards.pourInto(row);
            return shape.kindOf(row) != '-' && mayGive(cards, '-');
        }

        int addToMeld(int meld, Bag cards) {
            Row target = table.rowOf(meld);
            row.clear();
            cards.pourInto(row);
            for (int i = 0; i < row.size(); i++) {
                target.insertRising(row.at(i));
            }
            give(cards);
            return target.size();
        }

        /** Whether the hand may lose these cards: all of them only if nothing is left to be done. */
        private boolean mayGive(Bag cards, char kind) {
            boolean isUsed = must == NONE || cards.count(must) > 0;
            return cards.size() < ownHand().size() || isUsed && isContractMet(kind);
        }

        private void give(Bag cards) {
            row.clear();
            cards.pourInto(row);
            for (int i = 0; i < row.size(); i++) {
                seats.lose(turn, row.at(i));
                if (row.at(i) == must) {
                    must = NONE;
                }
            }
        }

        /** Whether the melds on the table and one more of a kind, or '-' for none, are what the contract tells. */
        private boolean isContractMet(char kind) {
            if (edition != 'c' || contract < 0 || contract >= CONTRACT_SETS.length
                    || contract >= CONTRACT_RUNS.length) {
                return true;
            }
            int sets = kind == 's' ? 1 : 0;
            int runs = kind == 'r' ? 1 : 0;
            for (int meld = 0; meld < table.size(); meld++) {
                if (table.ownerOf(meld) == turn) {
                    if (shape.kindOf(table.rowOf(meld)) == 's') {
                        sets++;
                    } else {
                        runs++;
                    }
                }
            }
            return sets >= CONTRACT_SETS[contract] && runs >= CONTRACT_RUNS[contract];
        }

        boolean mayDiscard(int card) {
            return part == 'p' && ownHand().count(card) > 0 && must == NONE
                    && (!table.isOfAny(turn) || isContractMet('-'));
        }

        void shed(int card) {
            seats.lose(turn, card);
            deck.pile.add(card);
        }

        void passTurn() {
            turn = behind(1);
            part = 'd';
        }

        boolean isOut() {
            return edition != 'g' && ownHand().size() == 0;
        }

        int heldByOthers() {
            int worth = 0;
            for (int i = 1; i < players; i++) {
                worth += seats.handOf(behind(i)).worthBy(rules);
            }
            return worth;
        }

        boolean mayKnock(int card) {
            if (part != 'p' || edition != 'g' || ownHand().count(card) == 0) {
                return false;
            }
            trial.copyFrom(ownHand());
            trial.remove(card);
            return search.leastOf(trial) <= KNOCK;
        }

        /** What the knocker gets, below 0 if the other one gets it. */
        int knockWith(int card) {
            shed(card);
            part = 'e';
            Bag other = seats.handOf(behind(1));
            int own = search.leastOf(ownHand());
            if (own == 0) {
                return BONUS + search.leastOf(other);
            }
            open.clear();
            int melds = search.meldsOf(ownHand());
            for (int meld = 0; meld < melds; meld++) {
                search.pourMeld(ownHand(), meld, open.open(turn));
            }
            int gain = search.leastBehind(other, open) - own;
            return gain > 0 ? gain : gain - BONUS;
        }

        /** Whether each card of the deal lies in just one place. */
        boolean isWhole() {
            places.clear();
            countPlaces(deck.stock);
            countPlaces(deck.pile);
            for (int meld = 0; meld < table.size(); meld++) {
                countPlaces(table.rowOf(meld));
            }
            for (int card = 0; card <= JOKER; card++) {
                if (places.count(card) + seats.countOf(card) != rules.copiesOf(card)) {
                    return false;
                }
            }
            return true;
        }

        private void countPlaces(Row cards) {
            for (int i = 0; i < cards.size(); i++) {
                places.add(cards.at(i));
            }
        }

        boolean isMelded() {
            for (int meld = 0; meld < table.size(); meld++) {
                if (shape.kindOf(table.rowOf(meld)) == '-') {
                    return false;
                }
            }
            return true;
        }

        boolean isSearchAgreed() {
            for (int player = 0; player < players; player++) {
                Bag hand = seats.handOf(player);
                if (hand.size() <= Plain.MOST && search.leastOf(hand) != plain.leastOf(hand)) {
                    return false;
                }
            }
            return true;
        }
    }
}
