/** A pack of cards folded by magicians. */
public final class CardFans {
    /** The pack has as many places as cards, so this bounds the numbers of both. */
    private static final int PLACES = 16;
    private static final int HALF = PLACES / 2;
    private static final int ALL_CARDS = (1 << PLACES) - 1;
    private static final int MOST_WATCHERS = 4;
    private static final int MOST_PLAYERS = 4;

    private static final int CUT = 0;
    private static final int RIFFLE_OUT = 1;
    private static final int RIFFLE_IN = 2;
    private static final int FOLD = 3;
    private static final int DEAL = 4;

    private static final int COUNTS = 7;
    private static final int WATCHER_COUNTS = 6;
    private static final int DIGEST_START = 929;
    private static final int DIGEST_FACTOR = 31;

    /** No order of 16 things comes back later than after 140 times; this stands far above. */
    private static final int MOST_TIMES = 1000;

    private final Row pack = new Row();
    /** Kept for back(), so that no call has to make a row of its own. */
    private final Row trial = new Row();
    private final Watcher[] watchers = new Watcher[MOST_WATCHERS];
    private final Player[] players = new Player[MOST_PLAYERS];
    private int watcherCount;
    private int playerCount;
    private int waysDone;
    private int falseCuts;
    private int leanOfFan;
    private int cardsTaken;

    public CardFans() {
        pack.putInOrder();
    }

    // ---- ways

    public int go(int kind, int number, boolean isOpen) throws IllegalArgumentException {
        requireWay(kind, number);
        pack.carry(kind, number);
        if (isOpen) {
            for (Watcher each : watchers) {
                if (each != null) {
                    each.follow(kind, number);
                }
            }
        }
        waysDone++;
        return pack.at(0);
    }

    public int falseCut(int number) throws IllegalArgumentException {
        requireWay(CUT, number);
        int astray = 0;
        for (Watcher each : watchers) {
            if (each != null && !each.isSharp) {
                each.follow(CUT, number);
                astray++;
            }
        }
        falseCuts++;
        return astray;
    }

    public int comes(int kind, int number, int place) throws IllegalArgumentException, IndexOutOfBoundsException {
        requireWay(kind, number);
        requirePlace(place);
        return placeAfter(kind, number, place);
    }

    public int card(int place) throws IndexOutOfBoundsException {
        requirePlace(place);
        return pack.at(place);
    }

    public int find(int card) throws IndexOutOfBoundsException {
        requireCard(card);
        return pack.firstPlaceOf(card);
    }

    // ---- watchers

    public int watch(boolean sharp) throws IllegalStateException {
        int number = watcherCount;
        if (number < 0 || number >= watchers.length) {
            throw new IllegalStateException("there are 4 watchers");
        }
        watchers[number] = new Watcher(sharp);
        watcherCount++;
        return number;
    }

    public int glimpse(int watcher, int place) throws IndexOutOfBoundsException {
        Watcher asked = watcherOf(watcher);
        requirePlace(place);
        int seen = pack.at(place);
        asked.see(place, seen);
        return seen;
    }

    public int thinks(int watcher, int place) throws IndexOutOfBoundsException {
        Watcher asked = watcherOf(watcher);
        requirePlace(place);
        return asked.thoughts.at(place);
    }

    public int sure(int watcher, int card) throws IndexOutOfBoundsException {
        Watcher asked = watcherOf(watcher);
        requireCard(card);
        return asked.thoughts.firstPlaceOf(setOf(card));
    }

    public int watcher(int watcher, int what) throws IndexOutOfBoundsException {
        Watcher asked = watcherOf(watcher);
        switch (what) {
            case 0:
                return asked.isSharp ? 1 : 0;
            case 1:
                return asked.placesHeldPossible(pack);
            case 2:
                return asked.placesSettled();
            case 3:
                return asked.placesSettledRightly(pack);
            case 4:
                return asked.timesAnew;
            case 5:
                return asked.glimpses;
            default:
                throw new IndexOutOfBoundsException("what is not 0 to 5");
        }
    }

    // ---- players

    public int sit(int habit) throws IllegalArgumentException, IllegalStateException {
        requireSixteenth(habit);
        int number = playerCount;
        if (number < 0 || number >= players.length) {
            throw new IllegalStateException("there are 4 players");
        }
        players[number] = new Player(habit);
        playerCount++;
        return number;
    }

    public int fan(int lean) throws IllegalArgumentException {
        requireSixteenth(lean);
        int before = leanOfFan;
        leanOfFan = lean;
        return before;
    }

    public int take(int player) throws IndexOutOfBoundsException {
        Player asked = playerOf(player);
        int place = Math.floorMod(asked.habit + leanOfFan + cardsTaken, PLACES);
        asked.latestCard = pack.at(place);
        cardsTaken++;
        return asked.latestCard;
    }

    public int force(int player, int card) throws IndexOutOfBoundsException {
        Player asked = playerOf(player);
        requireCard(card);
        return Math.floorMod(pack.firstPlaceOf(card) - asked.habit - cardsTaken, PLACES);
    }

    public int took(int player) throws IndexOutOfBoundsException {
        return playerOf(player).latestCard;
    }

    // ---- counts and what would be

    public int count(int what) throws IndexOutOfBoundsException {
        switch (what) {
            case 0:
                return waysDone;
            case 1:
                return falseCuts;
            case 2:
                return watcherCount;
            case 3:
                return playerCount;
            case 4:
                return leanOfFan;
            case 5:
                return cardsTaken;
            case 6:
                return pack.placesInOrder();
            default:
                throw new IndexOutOfBoundsException("what is not 0 to 6");
        }
    }

    public int back(int kind, int number) throws IllegalArgumentException {
        requireWay(kind, number);
        trial.putInOrder();
        int times = 0;
        do {
            trial.carry(kind, number);
            times++;
        } while (trial.placesInOrder() < PLACES && times < MOST_TIMES);
        return times;
    }

    public int bring(int card, int place) throws IndexOutOfBoundsException {
        requireCard(card);
        requirePlace(place);
        int wanted = setOf(place);
        int reached = setOf(pack.firstPlaceOf(card));
        // A shortest chain meets no place twice, so it is shorter than the number of places.
        for (int ways = 0; ways < PLACES; ways++) {
            if ((reached & wanted) != 0) {
                return ways;
            }
            reached |= placesOneWayFrom(reached);
        }
        return -1;
    }

    public int riffles(int card, int place) throws IndexOutOfBoundsException {
        requireCard(card);
        requirePlace(place);
        int start = pack.firstPlaceOf(card);
        for (int length = 0; length < PLACES; length++) {
            int leader = 1 << length;
            for (int order = 0; order < leader; order++) {
                if (placeAfterRiffles(start, order, length) == place) {
                    return leader + order;
                }
            }
        }
        return -1;
    }

    public double mean() {
        int thought = 0;
        for (Watcher each : watchers) {
            if (each != null) {
                thought += each.cardsThought();
            }
        }
        int places = watcherCount * PLACES;
        return places > 0 ? (double) thought / (double) places : 0.0;
    }

    public long digest() {
        long d = DIGEST_START;
        for (int what = 0; what < COUNTS; what++) {
            d = mixed(d, count(what));
        }
        d = pack.mixedInto(d);
        for (int number = 0; number < watcherCount; number++) {
            d = watcherMixedInto(d, number);
        }
        for (Player each : players) {
            if (each != null) {
                d = mixed(mixed(d, each.habit), each.latestCard);
            }
        }
        return d;
    }

    private long watcherMixedInto(long start, int number) {
        long d = start;
        for (int what = 0; what < WATCHER_COUNTS; what++) {
            d = mixed(d, watcher(number, what));
        }
        return watcherOf(number).thoughts.mixedInto(d);
    }

    private static long mixed(long d, int x) {
        return d * DIGEST_FACTOR + x;
    }

    private Watcher watcherOf(int number) {
        Watcher found = number >= 0 && number < watchers.length ? watchers[number] : null;
        if (found == null) {
            throw new IndexOutOfBoundsException("no such watcher");
        }
        return found;
    }

    private Player playerOf(int number) {
        Player found = number >= 0 && number < players.length ? players[number] : null;
        if (found == null) {
            throw new IndexOutOfBoundsException("no such player");
        }
        return found;
    }

    private static void requireWay(int kind, int number) {
        if (!isWay(kind, number)) {
            throw new IllegalArgumentException("no such way");
        }
    }

    private static void requirePlace(int place) {
        if (!isSixteenth(place)) {
            throw new IndexOutOfBoundsException("place is not 0 to 15");
        }
    }

    private static void requireCard(int card) {
        if (!isSixteenth(card)) {
            throw new IndexOutOfBoundsException("card is not 0 to 15");
        }
    }

    private static void requireSixteenth(int number) {
        if (!isSixteenth(number)) {
            throw new IllegalArgumentException("number is not 0 to 15");
        }
    }

    /** Places, cards, habits and leans all run from 0 to 15. */
    private static boolean isSixteenth(int number) {
        return number >= 0 && number < PLACES;
    }

    private static boolean isWay(int kind, int number) {
        switch (kind) {
            case CUT:
                return number >= 1 && number < PLACES;
            case FOLD:
                return number >= 2 && number <= PLACES;
            case RIFFLE_OUT:
            case RIFFLE_IN:
            case DEAL:
                return number == 0;
            default:
                return false;
        }
    }

    private static int placeAfter(int kind, int number, int place) {
        switch (kind) {
            case CUT:
                return place < number ? place + PLACES - number : place - number;
            case RIFFLE_OUT:
                return place < HALF ? 2 * place : 2 * (place - HALF) + 1;
            case RIFFLE_IN:
                return place < HALF ? 2 * place + 1 : 2 * (place - HALF);
            case FOLD:
                return place < number ? number - 1 - place : place;
            default:
                return placeAfterDeal(place);
        }
    }

    /**
     * Each time through, every second card of the pack goes to the table. As 16 is a power of two,
     * each time begins anew with a card that goes under, so the odd places are those dealt.
     */
    private static int placeAfterDeal(int place) {
        int at = place;
        int dealt = 0;
        for (int left = PLACES; left > 1 && at % 2 == 0; left /= 2) {
            dealt += left / 2;
            at /= 2;
        }
        return PLACES - 1 - dealt - at / 2;
    }

    private static int placeAfterRiffles(int start, int order, int length) {
        int at = start;
        for (int bit = length - 1; bit >= 0; bit--) {
            boolean isIn = (order >> bit & 1) == 1;
            at = placeAfter(isIn ? RIFFLE_IN : RIFFLE_OUT, 0, at);
        }
        return at;
    }

    private static int placesOneWayFrom(int places) {
        int next = 0;
        for (int place = 0; place < PLACES; place++) {
            if ((places & setOf(place)) != 0) {
                next |= setOf(placeAfter(RIFFLE_OUT, 0, place));
                next |= setOf(placeAfter(RIFFLE_IN, 0, place));
                next |= setOf(placeAfter(DEAL, 0, place));
                next |= setOf(placeAfter(FOLD, HALF, place));
            }
        }
        return next;
    }

    private static int setOf(int member) {
        return 1 << member;
    }

    private static boolean isOneAlone(int set) {
        return Integer.bitCount(set) == 1;
    }

    /** A number for each place, which the ways carry from place to place. */
    private static final class Row {
        private final int[] numbers = new int[PLACES];
        private final int[] carried = new int[PLACES];

        /** Looks at the place once for all callers, so that the machine never throws. */
        int at(int place) {
            return isSixteenth(place) ? numbers[place] : 0;
        }

        void put(int place, int number) {
            if (isSixteenth(place)) {
                numbers[place] = number;
            }
        }

        void putInOrder() {
            for (int place = 0; place < PLACES; place++) {
                numbers[place] = place;
            }
        }

        void carry(int kind, int number) {
            for (int place = 0; place < PLACES; place++) {
                int to = placeAfter(kind, number, place);
                if (isSixteenth(to)) {
                    carried[to] = numbers[place];
                }
            }
            for (int place = 0; place < PLACES; place++) {
                numbers[place] = carried[place];
            }
        }

        int firstPlaceOf(int number) {
            for (int place = 0; place < PLACES; place++) {
                if (numbers[place] == number) {
                    return place;
                }
            }
            return -1;
        }

        int placesInOrder() {
            int places = 0;
            for (int place = 0; place < PLACES; place++) {
                if (numbers[place] == place) {
                    places++;
                }
            }
            return places;
        }

        long mixedInto(long start) {
            long d = start;
            for (int place = 0; place < PLACES; place++) {
                d = mixed(d, numbers[place]);
            }
            return d;
        }
    }

    private static final class Watcher {
        private final boolean isSharp;
        /** For each place the set of the cards that can be there. */
        private final Row thoughts = new Row();
        private int timesAnew;
        private int glimpses;

        Watcher(boolean sharp) {
            isSharp = sharp;
            for (int place = 0; place < PLACES; place++) {
                thoughts.put(place, ALL_CARDS);
            }
        }

        void follow(int kind, int number) {
            thoughts.carry(kind, number);
        }

        void see(int place, int seen) {
            glimpses++;
            thoughts.put(place, setOf(seen));
            if (!concludes()) {
                thinkAnew(place, seen);
                timesAnew++;
            }
        }

        /** Whether some card is left of each place when nothing changes any more. */
        private boolean concludes() {
            boolean changes = true;
            // Each round but the last takes at least one card away from a place.
            for (int round = 0; changes && round <= PLACES * PLACES; round++) {
                changes = false;
                for (int place = 0; place < PLACES; place++) {
                    if (isOneAlone(thoughts.at(place)) && strikesElsewhere(place)) {
                        changes = true;
                    }
                }
                if (thoughts.firstPlaceOf(0) >= 0) {
                    return false;
                }
            }
            return true;
        }

        /** Takes what is thought of this place away from all others; whether that changed one. */
        private boolean strikesElsewhere(int place) {
            int struck = thoughts.at(place);
            boolean changes = false;
            for (int other = 0; other < PLACES; other++) {
                int thought = thoughts.at(other);
                if (other != place && (thought & struck) != 0) {
                    thoughts.put(other, thought & ~struck);
                    changes = true;
                }
            }
            return changes;
        }

        private void thinkAnew(int place, int seen) {
            for (int other = 0; other < PLACES; other++) {
                thoughts.put(other, ALL_CARDS & ~setOf(seen));
            }
            thoughts.put(place, setOf(seen));
        }

        int placesHeldPossible(Row pack) {
            int places = 0;
            for (int place = 0; place < PLACES; place++) {
                if ((thoughts.at(place) & setOf(pack.at(place))) != 0) {
                    places++;
                }
            }
            return places;
        }

        int placesSettled() {
            int places = 0;
            for (int place = 0; place < PLACES; place++) {
                if (isOneAlone(thoughts.at(place))) {
                    places++;
                }
            }
            return places;
        }

        int placesSettledRightly(Row pack) {
            int places = 0;
            for (int place = 0; place < PLACES; place++) {
                if (thoughts.at(place) == setOf(pack.at(place))) {
                    places++;
                }
            }
            return places;
        }

        int cardsThought() {
            int cards = 0;
            for (int place = 0; place < PLACES; place++) {
                cards += Integer.bitCount(thoughts.at(place));
            }
            return cards;
        }
    }

    private static final class Player {
        private final int habit;
        private int latestCard = -1;

        Player(int habit) {
            this.habit = habit;
        }
    }
}
