/** Promises 12 to 16: sit, fan, take, force, took. */
public final class PlayersTest {
    private static final Class<IllegalArgumentException> ARGUMENT = IllegalArgumentException.class;
    private static final Class<IndexOutOfBoundsException> INDEX = IndexOutOfBoundsException.class;
    private static final int[] NOT_0_TO_15 = {-1, 16, 17, Integer.MIN_VALUE, Integer.MAX_VALUE};

    private static final Checks checks = new Checks("PlayersTest");

    public static void main(String[] args) {
        sit();
        fan();
        take();
        takeManyTimes();
        forceMeansTake();
        force();
        refusals();
        checks.end();
    }

    private static void sit() {
        CardFans x = new CardFans();
        int[] habits = {0, 15, 7, 7};
        for (int player = 0; player < 4; player++) {
            for (int no : NOT_0_TO_15) {
                checks.refused("sit(" + no + ")", ARGUMENT, x, () -> x.sit(no));
            }
            checks.due("sit(" + habits[player] + ")", player, x.sit(habits[player]));
            checks.due("count(3)", player + 1, x.count(3));
        }
        checks.refused("sit(3) of a fifth", IllegalStateException.class, x, () -> x.sit(3));
        checks.refused("sit(16) of a fifth", ARGUMENT, x, () -> x.sit(16));
        checks.refused("sit(-1) of a fifth", ARGUMENT, x, () -> x.sit(-1));
    }

    private static void fan() {
        CardFans x = new CardFans();
        checks.due("fan(15)", 0, x.fan(15));
        checks.due("fan(4)", 15, x.fan(4));
        checks.due("count(4)", 4, x.count(4));
        for (int no : NOT_0_TO_15) {
            checks.refused("fan(" + no + ")", ARGUMENT, x, () -> x.fan(no));
        }
        checks.due("fan(0)", 4, x.fan(0));
        checks.due("fan(0) again", 0, x.fan(0));
    }

    private static void take() {
        CardFans x = new CardFans();
        x.sit(3);
        x.sit(14);
        checks.due("took(0) at first", -1, x.took(0));
        checks.due("take(0)", 3, x.take(0));
        checks.due("took(0)", 3, x.took(0));
        checks.due("took(1)", -1, x.took(1));
        checks.due("take(1): 14 + 1", 15, x.take(1));
        checks.due("take(1): 14 + 2", 0, x.take(1));
        x.fan(15);
        checks.due("take(0): 3 + 15 + 3", 5, x.take(0));
        checks.due("took(1) stays", 0, x.took(1));
        checks.due("took(0) is the latest", 5, x.took(0));
        checks.due("count(5)", 4, x.count(5));
        checks.due("the cards are put back", 16, x.count(6));
        x.go(3, 16, true);
        checks.due("take(0): the card at 3 + 15 + 4", 9, x.take(0));
        checks.due("took(0) is a card, no place", 9, x.took(0));
        x.go(0, 1, true);
        checks.due("took(0) stays when the cards move", 9, x.took(0));
    }

    private static void takeManyTimes() {
        CardFans x = new CardFans();
        x.sit(15);
        x.fan(15);
        for (int taken = 0; taken < 100; taken++) {
            checks.due("take " + taken, (30 + taken) % 16, x.take(0));
        }
    }

    private static void forceMeansTake() {
        for (int habit = 0; habit < 16; habit++) {
            for (int card = 0; card < 16; card++) {
                CardFans x = new CardFans();
                x.sit(habit);
                x.sit(2);
                x.go(4, 0, true);
                x.go(0, 1 + card % 15, false);
                for (int times = 0; times < card; times++) {
                    x.take(1);
                }
                long before = x.digest();
                int lean = x.force(0, card);
                checks.due("force changes nothing", before, x.digest());
                checks.that("force is 0 to 15: " + lean, lean >= 0 && lean <= 15);
                x.fan(lean);
                checks.due("take after force", card, x.take(0));
            }
        }
    }

    private static void force() {
        CardFans x = new CardFans();
        x.sit(5);
        checks.due("force(0, 5)", 0, x.force(0, 5));
        checks.due("force(0, 4)", 15, x.force(0, 4));
        checks.due("force(0, 15)", 10, x.force(0, 15));
        x.fan(9);
        checks.due("force(0, 5) whatever the lean", 0, x.force(0, 5));
        x.take(0);
        checks.due("force(0, 5) after one taken", 15, x.force(0, 5));
    }

    private static void refusals() {
        for (int players = 0; players <= 4; players++) {
            CardFans x = new CardFans();
            for (int player = 0; player < players; player++) {
                x.sit(4 * player);
                x.take(player);
            }
            for (int no : new int[] {-1, players, 4, 5, Integer.MIN_VALUE, Integer.MAX_VALUE}) {
                checks.refused("take(" + no + ") of " + players, INDEX, x, () -> x.take(no));
                checks.refused("force(" + no + ", 0) of " + players, INDEX, x, () -> x.force(no, 0));
                checks.refused("took(" + no + ") of " + players, INDEX, x, () -> x.took(no));
            }
        }
        CardFans x = new CardFans();
        x.sit(1);
        for (int no : NOT_0_TO_15) {
            checks.refused("force(0, " + no + ")", INDEX, x, () -> x.force(0, no));
        }
    }
}
