/** Promises 1 to 6: a new object, go, falseCut, comes, card, find. */
public final class WaysTest {
    private static final Class<IllegalArgumentException> ARGUMENT = IllegalArgumentException.class;
    private static final Class<IndexOutOfBoundsException> INDEX = IndexOutOfBoundsException.class;

    /** Kinds and numbers that are no way. */
    private static final int[][] NO_WAYS = {
        {-1, 0}, {-1, 1}, {5, 0}, {5, 1}, {Integer.MIN_VALUE, 0}, {Integer.MAX_VALUE, 0},
        {0, 0}, {0, -1}, {0, 16}, {0, Integer.MIN_VALUE}, {0, Integer.MAX_VALUE},
        {3, 1}, {3, 0}, {3, -1}, {3, 17}, {3, Integer.MIN_VALUE}, {3, Integer.MAX_VALUE},
        {1, 1}, {1, -1}, {2, 1}, {2, -1}, {4, 1}, {4, -1}, {4, 16},
    };
    private static final int[] NOT_0_TO_15 = {-1, 16, 17, Integer.MIN_VALUE, Integer.MAX_VALUE};

    private static final Checks checks = new Checks("WaysTest");

    public static void main(String[] args) {
        newObject();
        goByHand();
        goOpenAndHidden();
        goRefuses();
        falseCut();
        comes();
        comesRefuses();
        cardAndFind();
        checks.end();
    }

    private static void newObject() {
        CardFans x = new CardFans();
        for (int k = 0; k < 16; k++) {
            checks.due("new: card(" + k + ")", k, x.card(k));
            checks.due("new: find(" + k + ")", k, x.find(k));
        }
        for (int what = 0; what < 6; what++) {
            checks.due("new: count(" + what + ")", 0, x.count(what));
        }
        checks.due("new: count(6)", 16, x.count(6));
        checks.refused("new: thinks(0, 0)", INDEX, x, () -> x.thinks(0, 0));
        checks.refused("new: took(0)", INDEX, x, () -> x.took(0));
        CardFans other = new CardFans();
        other.go(0, 1, true);
        other.watch(true);
        checks.due("another object's way leaves this one", 0, x.card(0));
        checks.due("another object's watcher leaves this one", 0, x.count(2));
    }

    private static void goByHand() {
        pack("cut by 1", 0, 1, 1, 2, 3, 4, 5, 6, 7, 8, 9, 10, 11, 12, 13, 14, 15, 0);
        pack("cut by 5", 0, 5, 5, 6, 7, 8, 9, 10, 11, 12, 13, 14, 15, 0, 1, 2, 3, 4);
        pack("cut by 15", 0, 15, 15, 0, 1, 2, 3, 4, 5, 6, 7, 8, 9, 10, 11, 12, 13, 14);
        pack("riffle out", 1, 0, 0, 8, 1, 9, 2, 10, 3, 11, 4, 12, 5, 13, 6, 14, 7, 15);
        pack("riffle in", 2, 0, 8, 0, 9, 1, 10, 2, 11, 3, 12, 4, 13, 5, 14, 6, 15, 7);
        pack("fold by 2", 3, 2, 1, 0, 2, 3, 4, 5, 6, 7, 8, 9, 10, 11, 12, 13, 14, 15);
        pack("fold by 7", 3, 7, 6, 5, 4, 3, 2, 1, 0, 7, 8, 9, 10, 11, 12, 13, 14, 15);
        pack("fold by 16", 3, 16, 15, 14, 13, 12, 11, 10, 9, 8, 7, 6, 5, 4, 3, 2, 1, 0);
        pack("deal", 4, 0, 0, 8, 12, 4, 14, 10, 6, 2, 15, 13, 11, 9, 7, 5, 3, 1);
        CardFans x = new CardFans();
        checks.due("cut by 3, then", 3, x.go(0, 3, true));
        checks.due("fold by 4, then", 6, x.go(3, 4, false));
        checks.due("riffle in, then", 11, x.go(2, 0, true));
        checks.due("riffle out", 11, x.go(1, 0, true));
        checks.due("card(1) then", 15, x.card(1));
        checks.due("ways done", 4, x.count(0));
    }

    private static void pack(String name, int kind, int number, int... due) {
        for (int open = 0; open < 2; open++) {
            CardFans x = new CardFans();
            checks.due(name, due[0], x.go(kind, number, open == 1));
            for (int place = 0; place < 16; place++) {
                checks.due(name + ": card(" + place + ")", due[place], x.card(place));
            }
        }
    }

    private static void goOpenAndHidden() {
        CardFans x = new CardFans();
        x.watch(true);
        x.watch(false);
        x.glimpse(0, 2);
        x.glimpse(1, 3);
        x.go(0, 2, true);
        checks.due("sharp follows an open cut", 0, x.sure(0, 2));
        checks.due("not sharp follows an open cut", 1, x.sure(1, 3));
        x.go(0, 1, false);
        checks.due("sharp stays at a hidden cut", 0, x.sure(0, 2));
        checks.due("not sharp stays at a hidden cut", 1, x.sure(1, 3));
        checks.due("the card has moved", 15, x.find(2));
        x.go(4, 0, true);
        checks.due("sharp follows an open deal", 0, x.sure(0, 2));
        checks.due("not sharp follows an open deal", 15, x.sure(1, 3));
    }

    private static void goRefuses() {
        CardFans x = Given.used();
        for (int[] no : NO_WAYS) {
            checks.refused("go(" + no[0] + ", " + no[1] + ", true)", ARGUMENT, x, () -> x.go(no[0], no[1], true));
            checks.refused("go(" + no[0] + ", " + no[1] + ", false)", ARGUMENT, x, () -> x.go(no[0], no[1], false));
        }
    }

    private static void falseCut() {
        CardFans x = new CardFans();
        checks.due("falseCut without watchers", 0, x.falseCut(1));
        x.watch(true);
        checks.due("falseCut before a sharp one", 0, x.falseCut(15));
        x.watch(false);
        x.watch(false);
        x.glimpse(0, 6);
        x.glimpse(1, 6);
        checks.due("falseCut before three", 2, x.falseCut(4));
        checks.due("the sharp one stays", 6, x.sure(0, 6));
        checks.due("another is led astray", 2, x.sure(1, 6));
        checks.due("nothing moves", 16, x.count(6));
        checks.due("no way is counted", 0, x.count(0));
        checks.due("false cuts", 3, x.count(1));
        for (int number : new int[] {0, -1, 16, Integer.MIN_VALUE, Integer.MAX_VALUE}) {
            checks.refused("falseCut(" + number + ")", ARGUMENT, x, () -> x.falseCut(number));
        }
    }

    private static void comes() {
        CardFans x = Given.used();
        long before = x.digest();
        for (int kind = 0; kind < 5; kind++) {
            for (int number = 0; number <= 16; number++) {
                boolean isWay = kind == 0 ? number >= 1 && number <= 15 : kind == 3 ? number >= 2 : number == 0;
                if (isWay) {
                    comesWhereGoBrings(x, kind, number);
                }
            }
        }
        checks.due("comes changes nothing", before, x.digest());
    }

    private static void comesWhereGoBrings(CardFans x, int kind, int number) {
        CardFans fresh = new CardFans();
        fresh.go(kind, number, true);
        for (int place = 0; place < 16; place++) {
            String call = "comes(" + kind + ", " + number + ", " + place + ")";
            checks.due(call, fresh.find(place), x.comes(kind, number, place));
        }
    }

    private static void comesRefuses() {
        CardFans x = Given.used();
        for (int[] no : NO_WAYS) {
            String call = "comes(" + no[0] + ", " + no[1] + ", ";
            checks.refused(call + "3)", ARGUMENT, x, () -> x.comes(no[0], no[1], 3));
            checks.refused(call + "16)", ARGUMENT, x, () -> x.comes(no[0], no[1], 16));
        }
        for (int no : NOT_0_TO_15) {
            for (int[] way : new int[][] {{0, 1}, {1, 0}, {2, 0}, {3, 16}, {4, 0}}) {
                String call = "comes(" + way[0] + ", " + way[1] + ", " + no + ")";
                checks.refused(call, INDEX, x, () -> x.comes(way[0], way[1], no));
            }
        }
    }

    private static void cardAndFind() {
        CardFans x = Given.used();
        for (int k = 0; k < 16; k++) {
            checks.due("card(find(" + k + "))", k, x.card(x.find(k)));
        }
        CardFans cut = new CardFans();
        cut.go(0, 10, false);
        checks.due("card(0) after a cut by 10", 10, cut.card(0));
        checks.due("card(15) after a cut by 10", 9, cut.card(15));
        checks.due("find(0) after a cut by 10", 6, cut.find(0));
        checks.due("find(15) after a cut by 10", 5, cut.find(15));
        for (int no : NOT_0_TO_15) {
            checks.refused("card(" + no + ")", INDEX, x, () -> x.card(no));
            checks.refused("find(" + no + ")", INDEX, x, () -> x.find(no));
        }
    }
}
