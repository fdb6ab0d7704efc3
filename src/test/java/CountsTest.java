/** Promises 17 to 22: count, back, bring, riffles, mean, digest. */
public final class CountsTest {
    private static final Class<IllegalArgumentException> ARGUMENT = IllegalArgumentException.class;
    private static final Class<IndexOutOfBoundsException> INDEX = IndexOutOfBoundsException.class;
    private static final int[] NOT_0_TO_15 = {-1, 16, 17, Integer.MIN_VALUE, Integer.MAX_VALUE};

    private static final Checks checks = new Checks("CountsTest");

    public static void main(String[] args) {
        count();
        back();
        backRefuses();
        bring();
        riffles();
        rifflesBringThere();
        placesRefused();
        mean();
        digest();
        checks.end();
    }

    private static void count() {
        CardFans x = new CardFans();
        countsAre(x, 0, 0, 0, 0, 0, 0, 16);
        x.go(1, 0, true);
        countsAre(x, 1, 0, 0, 0, 0, 0, 2);
        x.go(2, 0, false);
        x.falseCut(3);
        x.watch(true);
        x.watch(true);
        x.watch(false);
        x.sit(7);
        x.sit(8);
        x.fan(13);
        x.take(1);
        x.take(0);
        x.take(0);
        x.take(1);
        x.comes(1, 0, 3);
        x.back(4, 0);
        countsAre(x, 2, 1, 3, 2, 13, 4, x.count(6));
        CardFans fold = new CardFans();
        fold.go(3, 5, true);
        countsAre(fold, 1, 0, 0, 0, 0, 0, 12);
        for (int no : new int[] {-1, 7, 8, Integer.MIN_VALUE, Integer.MAX_VALUE}) {
            checks.refused("count(" + no + ")", INDEX, x, () -> x.count(no));
        }
    }

    private static void countsAre(CardFans x, int... due) {
        for (int what = 0; what < 7; what++) {
            checks.due("count(" + what + ")", due[what], x.count(what));
        }
    }

    private static void back() {
        CardFans x = new CardFans();
        x.go(3, 9, false);
        long before = x.digest();
        int[] cuts = {0, 16, 8, 16, 4, 16, 8, 16, 2, 16, 8, 16, 4, 16, 8, 16};
        for (int number = 1; number <= 15; number++) {
            checks.due("back(0, " + number + ")", cuts[number], x.back(0, number));
        }
        checks.due("back(1, 0)", 4, x.back(1, 0));
        checks.due("back(2, 0)", 8, x.back(2, 0));
        for (int number = 2; number <= 16; number++) {
            checks.due("back(3, " + number + ")", 2, x.back(3, number));
        }
        checks.due("back(4, 0)", 15, x.back(4, 0));
        checks.due("back(4, 0) again", 15, x.back(4, 0));
        checks.due("back changes nothing", before, x.digest());
    }

    private static void backRefuses() {
        CardFans x = new CardFans();
        int[][] noWays = {
            {-1, 0}, {5, 0}, {Integer.MIN_VALUE, 1}, {Integer.MAX_VALUE, 1}, {0, 0}, {0, 16}, {0, -5},
            {3, 1}, {3, 17}, {3, -2}, {1, 1}, {1, -1}, {2, 1}, {2, -1}, {4, 1}, {4, -1},
            {0, Integer.MIN_VALUE}, {0, Integer.MAX_VALUE}, {3, Integer.MIN_VALUE}, {3, Integer.MAX_VALUE},
        };
        for (int[] no : noWays) {
            checks.refused("back(" + no[0] + ", " + no[1] + ")", ARGUMENT, x, () -> x.back(no[0], no[1]));
        }
    }

    private static void bring() {
        CardFans x = new CardFans();
        for (int place = 0; place < 16; place++) {
            checks.due("bring where it is", 0, x.bring(place, place));
        }
        checks.due("bring(0, 1): in", 1, x.bring(0, 1));
        checks.due("bring(0, 7): fold by 8", 1, x.bring(0, 7));
        checks.due("bring(1, 15): deal", 1, x.bring(1, 15));
        checks.due("bring(15, 14): in", 1, x.bring(15, 14));
        checks.due("bring(15, 8): deal", 1, x.bring(15, 8));
        checks.due("bring(0, 2): in, out", 2, x.bring(0, 2));
        checks.due("bring(0, 15): in, deal", 2, x.bring(0, 15));
        checks.due("bring(1, 0): out, deal, fold by 8", 3, x.bring(1, 0));
        checks.due("bring(15, 0): deal, in", 2, x.bring(15, 0));
        x.go(0, 5, true);
        checks.due("bring(5, 0) after a cut by 5", 0, x.bring(5, 0));
        checks.due("bring(5, 7) after a cut by 5", 1, x.bring(5, 7));
        long before = x.digest();
        x.bring(3, 11);
        checks.due("bring changes nothing", before, x.digest());
    }

    private static void riffles() {
        CardFans x = new CardFans();
        for (int place = 0; place < 16; place++) {
            checks.due("riffles where it is", 1, x.riffles(place, place));
        }
        checks.due("riffles(0, 1): in", 0b11, x.riffles(0, 1));
        checks.due("riffles(0, 2): in, out", 0b110, x.riffles(0, 2));
        checks.due("riffles(0, 3): in, in", 0b111, x.riffles(0, 3));
        checks.due("riffles(0, 5): in, out, in", 0b1101, x.riffles(0, 5));
        checks.due("riffles(0, 8): in, out, out, out", 0b11000, x.riffles(0, 8));
        checks.due("riffles(0, 15): in, in, in, in", 0b11111, x.riffles(0, 15));
        checks.due("riffles(1, 2): out", 0b10, x.riffles(1, 2));
        checks.due("riffles(1, 0): out, out, out, in", 0b10001, x.riffles(1, 0));
        checks.due("riffles(8, 1): out", 0b10, x.riffles(8, 1));
        checks.due("riffles(8, 0): in", 0b11, x.riffles(8, 0));
        x.go(0, 8, false);
        checks.due("riffles(8, 1) after a cut by 8", 0b11, x.riffles(8, 1));
        checks.due("riffles(8, 0) after a cut by 8", 1, x.riffles(8, 0));
    }

    private static void rifflesBringThere() {
        for (int start = 0; start < 16; start++) {
            for (int place = 0; place < 16; place++) {
                CardFans x = new CardFans();
                x.go(3, 13, true);
                int card = x.card(start);
                long before = x.digest();
                int told = x.riffles(card, place);
                checks.due("riffles changes nothing", before, x.digest());
                for (int bit = Integer.highestOneBit(told) >> 1; bit > 0; bit >>= 1) {
                    x.go((told & bit) == 0 ? 1 : 2, 0, true);
                }
                checks.due("riffles from " + start, place, x.find(card));
                checks.that("four riffles are enough: " + told, told >= 1 && told <= 31);
            }
        }
    }

    private static void placesRefused() {
        CardFans x = new CardFans();
        for (int no : NOT_0_TO_15) {
            checks.refused("bring(" + no + ", 0)", INDEX, x, () -> x.bring(no, 0));
            checks.refused("bring(0, " + no + ")", INDEX, x, () -> x.bring(0, no));
            checks.refused("bring(" + no + ", " + no + ")", INDEX, x, () -> x.bring(no, no));
            checks.refused("riffles(" + no + ", 0)", INDEX, x, () -> x.riffles(no, 0));
            checks.refused("riffles(0, " + no + ")", INDEX, x, () -> x.riffles(0, no));
            checks.refused("riffles(" + no + ", " + no + ")", INDEX, x, () -> x.riffles(no, no));
        }
    }

    private static void mean() {
        CardFans x = new CardFans();
        checks.dueMean("mean without watchers", 0.0, x.mean());
        x.watch(true);
        checks.dueMean("mean at first", 16.0, x.mean());
        x.glimpse(0, 2);
        checks.dueMean("mean after a glimpse", 226.0 / 16.0, x.mean());
        x.watch(false);
        checks.dueMean("mean of two", 482.0 / 32.0, x.mean());
        x.watch(false);
        checks.dueMean("mean of three", 738.0 / 48.0, x.mean());
        x.glimpse(1, 1);
        x.glimpse(1, 3);
        checks.dueMean("mean of three, later", (226.0 + 198.0 + 256.0) / 48.0, x.mean());
        long before = x.digest();
        x.mean();
        checks.due("mean changes nothing", before, x.digest());
    }

    private static void digest() {
        CardFans x = new CardFans();
        long d = 929;
        for (int number : new int[] {0, 0, 0, 0, 0, 0, 16}) {
            d = d * 31 + number;
        }
        for (int card = 0; card < 16; card++) {
            d = d * 31 + card;
        }
        checks.due("digest of a new object", d, x.digest());
        x.go(0, 1, true);
        x.watch(true);
        x.glimpse(0, 0);
        x.falseCut(2);
        x.sit(6);
        x.sit(9);
        x.fan(3);
        x.take(1);
        d = 929;
        int[] numbers = {
            1, 1, 1, 2, 3, 1, 0,
            1, 2, 3, 4, 5, 6, 7, 8, 9, 10, 11, 12, 13, 14, 15, 0,
            1, 16, 1, 1, 0, 1,
            2, 65533, 65533, 65533, 65533, 65533, 65533, 65533,
            65533, 65533, 65533, 65533, 65533, 65533, 65533, 65533,
            6, -1, 9, 13,
        };
        for (int number : numbers) {
            d = d * 31 + number;
        }
        checks.due("digest of a busy object", d, x.digest());
        checks.due("digest changes nothing", d, x.digest());
    }
}
