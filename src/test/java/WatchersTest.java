/** Promises 7 to 11: watch, glimpse, thinks, sure, watcher. */
public final class WatchersTest {
    private static final Class<IndexOutOfBoundsException> INDEX = IndexOutOfBoundsException.class;
    private static final int ALL = 65535;
    private static final int[] NOT_0_TO_15 = {-1, 16, 17, Integer.MIN_VALUE, Integer.MAX_VALUE};

    private static final Checks checks = new Checks("WatchersTest");

    public static void main(String[] args) {
        watch();
        glimpse();
        glimpseConcludes();
        glimpseChains();
        thinksAnewWhenTwicePlaced();
        thinksAnewWhenTheCardWasKnownElsewhere();
        thinksAnewAtTheLastPlace();
        thinksAnewWhenTooFewCardsAreLeft();
        thinks();
        sure();
        watcher();
        refusals();
        checks.end();
    }

    private static void watch() {
        CardFans x = new CardFans();
        boolean[] sharp = {true, false, false, true};
        for (int w = 0; w < 4; w++) {
            int asked = w;
            checks.refused("thinks(" + w + ", 0) ahead of its watcher", INDEX, x, () -> x.thinks(asked, 0));
            checks.due("watch", w, x.watch(sharp[w]));
            checks.due("count(2)", w + 1, x.count(2));
            checks.due("watcher(" + w + ", 0)", sharp[w] ? 1 : 0, x.watcher(w, 0));
            for (int place = 0; place < 16; place++) {
                checks.due("thinks at first", ALL, x.thinks(w, place));
            }
            x.go(0, 3, true);
            x.glimpse(w, w);
        }
        checks.refused("watch(true) of a fifth", IllegalStateException.class, x, () -> x.watch(true));
        checks.refused("watch(false) of a fifth", IllegalStateException.class, x, () -> x.watch(false));
    }

    private static void glimpse() {
        CardFans x = new CardFans();
        x.watch(false);
        x.watch(true);
        x.go(0, 4, false);
        checks.due("glimpse(1, 3)", 7, x.glimpse(1, 3));
        for (int place = 0; place < 16; place++) {
            checks.due("thinks(1, " + place + ")", place == 3 ? 1 << 7 : ALL - (1 << 7), x.thinks(1, place));
            checks.due("another thinks as before", ALL, x.thinks(0, place));
        }
        checks.due("glimpses of 1", 1, x.watcher(1, 5));
        checks.due("glimpses of 0", 0, x.watcher(0, 5));
        checks.due("the same again", 7, x.glimpse(1, 3));
        checks.due("the same again is no surprise", 0, x.watcher(1, 4));
        checks.due("glimpses of 1 then", 2, x.watcher(1, 5));
        checks.due("glimpse(0, 15)", 3, x.glimpse(0, 15));
    }

    private static void glimpseConcludes() {
        CardFans x = new CardFans();
        x.watch(true);
        for (int place = 0; place < 15; place++) {
            x.glimpse(0, place);
        }
        checks.due("the last place is concluded", 1 << 15, x.thinks(0, 15));
        checks.due("16 places settled", 16, x.watcher(0, 2));
        checks.due("never anew", 0, x.watcher(0, 4));
    }

    /** Anew at the place 0 leaves sets of which a later glimpse settles several, one behind the other. */
    private static void glimpseChains() {
        CardFans x = new CardFans();
        x.watch(true);
        for (int place = 15; place > 1; place--) {
            x.glimpse(0, place);
        }
        checks.due("two are left of the place 0", 3, x.thinks(0, 0));
        checks.due("two are left of the place 1", 3, x.thinks(0, 1));
        x.glimpse(0, 1);
        checks.due("the place 0, by its number ahead, is settled", 1, x.thinks(0, 0));
        checks.due("16 settled", 16, x.watcher(0, 3));
    }

    private static void thinksAnewWhenTwicePlaced() {
        CardFans x = new CardFans();
        x.watch(true);
        x.glimpse(0, 0);
        x.go(0, 15, false);
        checks.due("the card 0 is now at the place 1", 0, x.glimpse(0, 1));
        checks.due("anew", 1, x.watcher(0, 4));
        for (int place = 0; place < 16; place++) {
            checks.due("anew: thinks(0, " + place + ")", place == 1 ? 1 : ALL - 1, x.thinks(0, place));
        }
        checks.due("one is sure", 1, x.sure(0, 0));
    }

    private static void thinksAnewWhenTheCardWasKnownElsewhere() {
        CardFans x = new CardFans();
        x.watch(true);
        x.glimpse(0, 5);
        x.go(3, 2, false);
        x.glimpse(0, 9);
        checks.due("no reason for anew", 0, x.watcher(0, 4));
        x.go(0, 1, false);
        checks.due("glimpse(0, 5) of another card", 6, x.glimpse(0, 5));
        checks.due("one card instead of another at a place", 0, x.watcher(0, 4));
        checks.due("thinks(0, 5)", 1 << 6, x.thinks(0, 5));
        checks.due("thinks(0, 4): 5 was given up by its place alone", ALL - (1 << 5) - (1 << 6) - (1 << 9),
            x.thinks(0, 4));
        checks.due("glimpse(0, 4)", 5, x.glimpse(0, 4));
        checks.due("5 at 4: no contradiction", 0, x.watcher(0, 4));
        checks.due("glimpse(0, 8)", 9, x.glimpse(0, 8));
        checks.due("9 at 8 and at 9: anew", 1, x.watcher(0, 4));
        checks.due("anew: thinks(0, 8)", 1 << 9, x.thinks(0, 8));
        checks.due("anew: thinks(0, 5)", ALL - (1 << 9), x.thinks(0, 5));
        checks.due("anew: thinks(0, 9)", ALL - (1 << 9), x.thinks(0, 9));
        checks.due("glimpses", 5, x.watcher(0, 5));
    }

    /** All but one place settled, a hidden cut: the contradiction is found, whatever the place. */
    private static void thinksAnewAtTheLastPlace() {
        for (int place = 0; place < 16; place++) {
            CardFans x = new CardFans();
            x.watch(false);
            for (int seen = 0; seen < 15; seen++) {
                x.glimpse(0, seen);
            }
            x.go(0, 1, false);
            x.glimpse(0, place);
            checks.due("anew by the place " + place, 1, x.watcher(0, 4));
            checks.due("settled by the place " + place, 1, x.watcher(0, 2));
        }
    }

    /**
     * A place glimpsed ahead of a hidden cut and behind it loses its first card from all sets. So of the
     * last three places two cards are thought, and a glimpse of one leaves one card for two places,
     * which shows at once or only the next time round, by the numbers of the three.
     */
    private static void thinksAnewWhenTooFewCardsAreLeft() {
        for (int twice = 0; twice < 16; twice++) {
            for (int cut = 1; cut < 16; cut++) {
                int lost = (twice - cut + 16) % 16;
                for (int last = 0; last < 16; last++) {
                    for (int unseen = 0; unseen < 16; unseen++) {
                        boolean isTriple = last != unseen && last != lost && unseen != lost;
                        if (isTriple && last != twice && unseen != twice) {
                            tooFewCardsAreLeft(twice, cut, last, unseen);
                        }
                    }
                }
            }
        }
    }

    private static void tooFewCardsAreLeft(int twice, int cut, int last, int unseen) {
        CardFans x = new CardFans();
        x.watch(true);
        x.glimpse(0, twice);
        x.go(0, cut, false);
        for (int place = 0; place < 16; place++) {
            if (place != last && place != unseen && x.card(place) != twice) {
                x.glimpse(0, place);
            }
        }
        String named = " by " + twice + ", " + cut + ", " + last + ", " + unseen;
        checks.due("not yet anew" + named, 0, x.watcher(0, 4));
        int seen = 1 << x.card(last);
        checks.due("two cards are left" + named, seen | 1 << x.card(unseen), x.thinks(0, last));
        x.glimpse(0, last);
        checks.due("anew" + named, 1, x.watcher(0, 4));
        for (int place = 0; place < 16; place++) {
            checks.due("thinks(0, " + place + ")" + named, place == last ? seen : ALL - seen, x.thinks(0, place));
        }
    }

    private static void thinks() {
        CardFans x = new CardFans();
        x.watch(true);
        x.watch(false);
        x.glimpse(0, 12);
        x.glimpse(1, 12);
        x.falseCut(12);
        checks.due("the sharp one of 12", 1 << 12, x.thinks(0, 12));
        checks.due("the sharp one of 0", ALL - (1 << 12), x.thinks(0, 0));
        checks.due("the other of 12", ALL - (1 << 12), x.thinks(1, 12));
        checks.due("the other of 0", 1 << 12, x.thinks(1, 0));
    }

    private static void sure() {
        CardFans x = new CardFans();
        x.watch(true);
        for (int card = 0; card < 16; card++) {
            checks.due("sure at first", -1, x.sure(0, card));
        }
        x.glimpse(0, 0);
        x.glimpse(0, 15);
        checks.due("sure(0, 0)", 0, x.sure(0, 0));
        checks.due("sure(0, 15)", 15, x.sure(0, 15));
        checks.due("sure(0, 7)", -1, x.sure(0, 7));
        x.go(0, 1, false);
        checks.due("sure, and wrong", 0, x.sure(0, 0));
        x.go(0, 1, true);
        checks.due("sure, wrong, and moved", 15, x.sure(0, 0));
    }

    private static void watcher() {
        CardFans x = new CardFans();
        x.watch(false);
        watcherIs(x, 0, 16, 0, 0, 0, 0);
        x.glimpse(0, 3);
        watcherIs(x, 0, 16, 1, 1, 0, 1);
        x.go(0, 2, false);
        watcherIs(x, 0, 14, 1, 0, 0, 1);
        x.glimpse(0, 7);
        watcherIs(x, 0, 14, 2, 1, 0, 2);
        x.glimpse(0, 1);
        watcherIs(x, 0, 16, 1, 1, 1, 3);
        x.falseCut(1);
        watcherIs(x, 0, 14, 1, 0, 1, 3);
        x.watch(true);
        checks.due("watcher(1, 0)", 1, x.watcher(1, 0));
        checks.due("watcher(1, 1)", 16, x.watcher(1, 1));
    }

    private static void watcherIs(CardFans x, int... due) {
        for (int what = 0; what < 6; what++) {
            checks.due("watcher(0, " + what + ")", due[what], x.watcher(0, what));
        }
    }

    private static void refusals() {
        for (int watchers = 0; watchers <= 4; watchers++) {
            CardFans x = new CardFans();
            for (int w = 0; w < watchers; w++) {
                x.watch(w % 2 == 0);
                x.glimpse(w, 3 * w);
            }
            for (int no : new int[] {-1, watchers, 4, 5, Integer.MIN_VALUE, Integer.MAX_VALUE}) {
                String named = "(" + no + ", 0) of " + watchers;
                checks.refused("glimpse" + named, INDEX, x, () -> x.glimpse(no, 0));
                checks.refused("thinks" + named, INDEX, x, () -> x.thinks(no, 0));
                checks.refused("sure" + named, INDEX, x, () -> x.sure(no, 0));
                checks.refused("watcher" + named, INDEX, x, () -> x.watcher(no, 0));
            }
        }
        CardFans x = new CardFans();
        x.watch(true);
        for (int no : NOT_0_TO_15) {
            checks.refused("glimpse(0, " + no + ")", INDEX, x, () -> x.glimpse(0, no));
            checks.refused("thinks(0, " + no + ")", INDEX, x, () -> x.thinks(0, no));
            checks.refused("sure(0, " + no + ")", INDEX, x, () -> x.sure(0, no));
            checks.refused("watcher(0, " + no + ")", INDEX, x, () -> x.watcher(0, no));
        }
        checks.refused("watcher(0, 6)", INDEX, x, () -> x.watcher(0, 6));
    }
}
