import java.util.Arrays;

/** What stands under "Terms" and "The public face", one method for each boundary case. */
public final class TermsBoundaryTest {
    public static void main(String[] args) throws IllegalAccessException {
        Cases.run(TermsBoundaryTest.class);
    }

    // ---- the pack

    static void terms_atFirstTheCard0IsAtTheTop(Checks checks) {
        checks.due("card(0)", 0, new CardFans().card(0));
    }

    static void terms_atFirstTheCard15IsAtTheBottom(Checks checks) {
        checks.due("card(15)", 15, new CardFans().card(15));
    }

    // ---- cut by n, 1 to 15

    static void terms_cutByTheLeast1BringsTheTopCardAloneToTheBottom(Checks checks) {
        packIs(checks, 0, 1, 1, 2, 3, 4, 5, 6, 7, 8, 9, 10, 11, 12, 13, 14, 15, 0);
    }

    static void terms_cutByTheMost15BringsTheBottomCardAloneToTheTop(Checks checks) {
        packIs(checks, 0, 15, 15, 0, 1, 2, 3, 4, 5, 6, 7, 8, 9, 10, 11, 12, 13, 14);
    }

    static void terms_cutBringsTheCardsDownAsTheyAre(Checks checks) {
        packIs(checks, 0, 4, 4, 5, 6, 7, 8, 9, 10, 11, 12, 13, 14, 15, 0, 1, 2, 3);
    }

    static void terms_cutByNTakesThePlaceNLess1DownAndThePlaceNToTheTop(Checks checks) {
        CardFans x = new CardFans();
        for (int n = 1; n <= 15; n++) {
            checks.due("comes(0, " + n + ", " + (n - 1) + ")", 15, x.comes(0, n, n - 1));
            checks.due("comes(0, " + n + ", " + n + ")", 0, x.comes(0, n, n));
        }
    }

    // ---- riffles

    static void terms_riffleOutKeepsTheTopAtTheTop(Checks checks) {
        comes(checks, 1, 0, 0, 0);
    }

    static void terms_riffleOutKeepsTheBottomAtTheBottom(Checks checks) {
        comes(checks, 1, 0, 15, 15);
    }

    static void terms_riffleOutBringsThePlace7TheLastOfTheUpperHalfTo14(Checks checks) {
        comes(checks, 1, 0, 7, 14);
    }

    static void terms_riffleOutBringsThePlace8TheFirstOfTheLowerHalfTo1(Checks checks) {
        comes(checks, 1, 0, 8, 1);
    }

    static void terms_riffleOutOfTheWholePack(Checks checks) {
        packIs(checks, 1, 0, 0, 8, 1, 9, 2, 10, 3, 11, 4, 12, 5, 13, 6, 14, 7, 15);
    }

    static void terms_riffleInBringsTheTopTo1(Checks checks) {
        comes(checks, 2, 0, 0, 1);
    }

    static void terms_riffleInBringsTheBottomTo14(Checks checks) {
        comes(checks, 2, 0, 15, 14);
    }

    static void terms_riffleInBringsThePlace7TheLastOfTheUpperHalfTo15(Checks checks) {
        comes(checks, 2, 0, 7, 15);
    }

    static void terms_riffleInBringsThePlace8TheFirstOfTheLowerHalfTo0(Checks checks) {
        comes(checks, 2, 0, 8, 0);
    }

    static void terms_riffleInOfTheWholePack(Checks checks) {
        packIs(checks, 2, 0, 8, 0, 9, 1, 10, 2, 11, 3, 12, 4, 13, 5, 14, 6, 15, 7);
    }

    // ---- fold by n, 2 to 16

    static void terms_foldByTheLeast2ChangesTheFirstTwo(Checks checks) {
        packIs(checks, 3, 2, 1, 0, 2, 3, 4, 5, 6, 7, 8, 9, 10, 11, 12, 13, 14, 15);
    }

    static void terms_foldByTheMost16TurnsTheWholePack(Checks checks) {
        packIs(checks, 3, 16, 15, 14, 13, 12, 11, 10, 9, 8, 7, 6, 5, 4, 3, 2, 1, 0);
    }

    static void terms_foldBy15KeepsTheBottomAlone(Checks checks) {
        packIs(checks, 3, 15, 14, 13, 12, 11, 10, 9, 8, 7, 6, 5, 4, 3, 2, 1, 0, 15);
    }

    static void terms_foldByNBringsTheTopToNLess1(Checks checks) {
        CardFans x = new CardFans();
        for (int n = 2; n <= 16; n++) {
            checks.due("comes(3, " + n + ", 0)", n - 1, x.comes(3, n, 0));
        }
    }

    static void terms_foldByNBringsThePlaceNLess1ToTheTop(Checks checks) {
        CardFans x = new CardFans();
        for (int n = 2; n <= 16; n++) {
            checks.due("comes(3, " + n + ", " + (n - 1) + ")", 0, x.comes(3, n, n - 1));
        }
    }

    static void terms_foldByNKeepsThePlaceN(Checks checks) {
        CardFans x = new CardFans();
        for (int n = 2; n <= 15; n++) {
            checks.due("comes(3, " + n + ", " + n + ")", n, x.comes(3, n, n));
        }
    }

    static void terms_foldByAnOddNumberKeepsTheMiddle(Checks checks) {
        comes(checks, 3, 7, 3, 3);
    }

    // ---- deal

    static void terms_dealPutsTheTopUnderThePackFirstSoThePlace1IsDealtFirst(Checks checks) {
        comes(checks, 4, 0, 1, 15);
    }

    static void terms_dealPutsEachCardUponThoseOnTheTable(Checks checks) {
        comes(checks, 4, 0, 3, 14);
    }

    static void terms_dealTakesTheBottomCardInItsTurn(Checks checks) {
        comes(checks, 4, 0, 15, 8);
    }

    static void terms_dealGoesOnWithTheCardsPutUnderThePack(Checks checks) {
        comes(checks, 4, 0, 2, 7);
    }

    static void terms_dealPutsTheOneThatIsLeftOnTheTableTooSoItIsAtTheTop(Checks checks) {
        comes(checks, 4, 0, 0, 0);
    }

    static void terms_dealOfTheWholePack(Checks checks) {
        packIs(checks, 4, 0, 0, 8, 12, 4, 14, 10, 6, 2, 15, 13, 11, 9, 7, 5, 3, 1);
    }

    // ---- watchers

    static void terms_allCardsAreThoughtOfEachPlaceAtFirst(Checks checks) {
        CardFans x = Given.watched(true, false);
        for (int place = 0; place < 16; place++) {
            checks.due("thinks(0, " + place + ")", Given.ALL, x.thinks(0, place));
            checks.due("thinks(1, " + place + ")", Given.ALL, x.thinks(1, place));
        }
    }

    static void terms_theBitOfTheCard0IsTheLowest(Checks checks) {
        checks.due("thinks(0, 0)", 1, Given.glimpsed(0).thinks(0, 0));
    }

    static void terms_theBitOfTheCard15Is32768(Checks checks) {
        checks.due("thinks(0, 15)", 32768, Given.glimpsed(15).thinks(0, 15));
    }

    static void terms_anOpenWayIsFollowedByTheSharpAndTheOthers(Checks checks) {
        CardFans x = Given.watched(true, false);
        x.glimpse(0, 3);
        x.glimpse(1, 3);
        x.go(0, 3, true);
        checks.due("thinks(0, 0)", 8, x.thinks(0, 0));
        checks.due("thinks(1, 0)", 8, x.thinks(1, 0));
        checks.due("thinks(0, 3)", Given.ALL - 8, x.thinks(0, 3));
        checks.due("thinks(1, 3)", Given.ALL - 8, x.thinks(1, 3));
    }

    static void terms_anOpenCutBringsTheThoughtOfTheTopRoundToTheBottom(Checks checks) {
        CardFans x = Given.known(true);
        x.go(0, 1, true);
        checks.due("thinks(0, 15)", 1, x.thinks(0, 15));
        checks.due("thinks(0, 14)", 32768, x.thinks(0, 14));
        checks.due("thinks(0, 0)", 2, x.thinks(0, 0));
    }

    static void terms_anOpenWayBringsEachThoughtWithItsCard(Checks checks) {
        for (int[] way : new int[][] {{0, 6}, {1, 0}, {2, 0}, {3, 2}, {3, 11}, {3, 16}, {4, 0}}) {
            CardFans x = Given.known(false);
            x.go(way[0], way[1], true);
            for (int place = 0; place < 16; place++) {
                String call = "thinks(0, " + place + ") after " + Arrays.toString(way);
                checks.due(call, 1 << x.card(place), x.thinks(0, place));
            }
        }
    }

    static void terms_anOpenWayBringsWhatIsThoughtWronglyToo(Checks checks) {
        CardFans x = Given.known(true);
        x.go(0, 1, false);
        x.go(3, 2, true);
        checks.due("thinks(0, 0)", 2, x.thinks(0, 0));
        checks.due("thinks(0, 1)", 1, x.thinks(0, 1));
        checks.due("thinks(0, 2)", 4, x.thinks(0, 2));
    }

    static void terms_aHiddenWayMovesTheCards(Checks checks) {
        CardFans x = Given.watched(true);
        x.go(4, 0, false);
        checks.due("card(15)", 1, x.card(15));
    }

    static void terms_aHiddenWayLeavesWhatAllWatchersThink(Checks checks) {
        for (int[] way : new int[][] {{0, 1}, {1, 0}, {2, 0}, {3, 16}, {4, 0}}) {
            CardFans x = Given.watched(true, false);
            x.glimpse(0, 2);
            x.glimpse(1, 14);
            x.go(way[0], way[1], false);
            for (int place = 0; place < 16; place++) {
                String call = ", " + place + ") after " + Arrays.toString(way);
                checks.due("thinks(0" + call, place == 2 ? 4 : Given.ALL - 4, x.thinks(0, place));
                checks.due("thinks(1" + call, place == 14 ? 1 << 14 : Given.ALL - (1 << 14), x.thinks(1, place));
            }
        }
    }

    // ---- glimpses

    static void terms_aGlimpseThinksOfThePlaceTheCardAlone(Checks checks) {
        checks.due("thinks(0, 9)", 1 << 9, Given.glimpsed(9).thinks(0, 9));
    }

    static void terms_aGlimpseThinksTheCardOfNoOtherPlace(Checks checks) {
        CardFans x = Given.glimpsed(9);
        for (int place = 0; place < 16; place++) {
            if (place != 9) {
                checks.due("thinks(0, " + place + ")", Given.ALL - (1 << 9), x.thinks(0, place));
            }
        }
    }

    static void terms_aGlimpsePutsTheCardInThePlaceOfAnotherThatWasThoughtAlone(Checks checks) {
        CardFans x = Given.glimpsed(9);
        x.go(0, 1, false);
        x.glimpse(0, 9);
        checks.due("thinks(0, 9)", 1 << 10, x.thinks(0, 9));
        checks.due("thinks(0, 8): the card 9 is struck and does not come back", Given.ALL - (1 << 9) - (1 << 10),
            x.thinks(0, 8));
        checks.due("thought anew", 0, x.watcher(0, 4));
    }

    static void terms_aPlaceWithOneCardLeftIsConcludedThoughItWasNotGlimpsed(Checks checks) {
        CardFans x = Given.glimpsed(0, 1, 2, 3, 4, 5, 6, 7, 8, 9, 10, 11, 12, 13, 14);
        checks.due("thinks(0, 15)", 1 << 15, x.thinks(0, 15));
    }

    static void terms_twoPlacesWithTwoCardsLeftAreNotConcluded(Checks checks) {
        CardFans x = Given.glimpsed(0, 1, 2, 3, 4, 5, 6, 7, 8, 9, 10, 11, 12, 13);
        checks.due("thinks(0, 14)", 3 << 14, x.thinks(0, 14));
        checks.due("thinks(0, 15)", 3 << 14, x.thinks(0, 15));
    }

    static void terms_oneCardLeftForTwoLaterPlacesIsThoughtAnew(Checks checks) {
        oneCardIsLeftForThePlace8And(checks, 15, 0);
    }

    static void terms_oneCardLeftForAnEarlierAndALaterPlaceIsThoughtAnew(Checks checks) {
        oneCardIsLeftForThePlace8And(checks, 0, 1);
    }

    /** Of the two places the card alone is left only when the glimpsed one had its turn: again and again. */
    static void terms_oneCardLeftForTwoEarlierPlacesIsThoughtAnew(Checks checks) {
        oneCardIsLeftForThePlace8And(checks, 0, 15);
    }

    static void terms_theSameCardAtTwoPlacesIsThoughtAnew(Checks checks) {
        CardFans x = Given.glimpsed(0);
        x.go(0, 1, false);
        x.glimpse(0, 15);
        checks.due("thought anew", 1, x.watcher(0, 4));
    }

    static void terms_thinkingAnewThinksOfTheGlimpsedPlaceTheCardThatWasSeenAlone(Checks checks) {
        CardFans x = Given.glimpsed(0);
        x.go(0, 1, false);
        x.glimpse(0, 15);
        checks.due("thinks(0, 15)", 1, x.thinks(0, 15));
    }

    static void terms_thinkingAnewThinksOfEachOtherPlaceAllCardsButThisOne(Checks checks) {
        CardFans x = Given.glimpsed(0, 6, 11);
        x.go(0, 1, false);
        x.glimpse(0, 15);
        for (int place = 0; place < 15; place++) {
            checks.due("thinks(0, " + place + ")", Given.ALL - 1, x.thinks(0, place));
        }
    }

    static void terms_thinkingAnewIsOfThisWatcherAlone(Checks checks) {
        CardFans x = Given.watched(true, true);
        x.glimpse(0, 0);
        x.glimpse(1, 0);
        x.go(0, 1, false);
        x.glimpse(0, 15);
        checks.due("thinks(1, 0)", 1, x.thinks(1, 0));
        checks.due("thinks(1, 15)", Given.ALL - 1, x.thinks(1, 15));
        checks.due("watcher(1, 4)", 0, x.watcher(1, 4));
    }

    // ---- players

    static void terms_theFanHasTheLean0AtFirst(Checks checks) {
        checks.due("count(4)", 0, new CardFans().count(4));
        checks.due("take(0) by the habit 3", 3, Given.seated(3).take(0));
    }

    static void terms_aPlayerPutsTheCardBackThere(Checks checks) {
        CardFans x = Given.seated(3);
        x.take(0);
        for (int place = 0; place < 16; place++) {
            checks.due("card(" + place + ")", place, x.card(place));
        }
    }

    static void terms_aPlayerWhoSeesACardIsNoWatcherAndShowsItToNone(Checks checks) {
        CardFans x = Given.watched(true);
        x.sit(3);
        x.take(0);
        checks.due("thinks(0, 3)", Given.ALL, x.thinks(0, 3));
        checks.due("watcher(0, 5)", 0, x.watcher(0, 5));
    }

    // ---- an object's 512 calls

    static void terms_the512thCallAnswersStillByWays(Checks checks) {
        CardFans x = new CardFans();
        for (int call = 1; call <= 511; call++) {
            checks.due("go, call " + call, call % 16, x.go(0, 1, call % 2 == 0));
        }
        checks.due("count(0), call 512", 511, x.count(0));
    }

    static void terms_the512thCallAnswersStillByTakes(Checks checks) {
        CardFans x = Given.seated(15);
        for (int call = 2; call <= 511; call++) {
            checks.due("take(0), call " + call, (15 + call - 2) % 16, x.take(0));
        }
        checks.due("count(5), call 512", 510, x.count(5));
    }

    static void terms_the512thCallAnswersStillByGlimpses(Checks checks) {
        CardFans x = Given.watched(false);
        for (int call = 2; call <= 511; call++) {
            checks.due("glimpse, call " + call, call % 16, x.glimpse(0, call % 16));
        }
        checks.due("watcher(0, 5), call 512", 510, x.watcher(0, 5));
    }

    // ---- exceptions

    static void face_ofSeveralExceptionsComesThrowsTheArgumentsThatIsNamedFirst(Checks checks) {
        CardFans x = Given.used();
        checks.refused("comes(5, 0, 16)", Given.ARGUMENT, x, () -> x.comes(5, 0, 16));
        checks.refused("comes(0, 0, -1)", Given.ARGUMENT, x, () -> x.comes(0, 0, -1));
    }

    static void face_ofSeveralExceptionsSitThrowsTheArgumentsThatIsNamedFirst(Checks checks) {
        CardFans x = Given.seated(1, 2, 3, 4);
        checks.refused("sit(16)", Given.ARGUMENT, x, () -> x.sit(16));
        checks.refused("sit(-1)", Given.ARGUMENT, x, () -> x.sit(-1));
    }

    static void face_aCallAfterARefusedOneAnswersAsIfThatHadNotBeen(Checks checks) {
        CardFans x = Given.used();
        CardFans spared = Given.used();
        checks.refused("go(0, 16, true)", Given.ARGUMENT, x, () -> x.go(0, 16, true));
        checks.refused("falseCut(0)", Given.ARGUMENT, x, () -> x.falseCut(0));
        checks.refused("glimpse(0, 16)", Given.INDEX, x, () -> x.glimpse(0, 16));
        checks.refused("take(1)", Given.INDEX, x, () -> x.take(1));
        checks.refused("fan(16)", Given.ARGUMENT, x, () -> x.fan(16));
        checks.refused("sit(16)", Given.ARGUMENT, x, () -> x.sit(16));
        checks.due("go(3, 16, true)", spared.go(3, 16, true), x.go(3, 16, true));
        checks.due("falseCut(15)", spared.falseCut(15), x.falseCut(15));
        checks.due("glimpse(0, 15)", spared.glimpse(0, 15), x.glimpse(0, 15));
        checks.due("take(0)", spared.take(0), x.take(0));
        checks.due("fan(15)", spared.fan(15), x.fan(15));
        checks.due("sit(15)", spared.sit(15), x.sit(15));
        checks.due("watch(true)", spared.watch(true), x.watch(true));
        checks.due("digest()", spared.digest(), x.digest());
    }

    /**
     * The place 9 is glimpsed ahead of a hidden cut and behind it, so its first card is thought of no place
     * any more; that leaves the places that are not glimpsed with a card too few.
     */
    private static void oneCardIsLeftForThePlace8And(Checks checks, int unseen, int last) {
        CardFans x = Given.glimpsed(9);
        x.go(0, 1, false);
        for (int place = 0; place < 16; place++) {
            if (place != 8 && place != unseen && place != last) {
                x.glimpse(0, place);
            }
        }
        checks.due("not yet thought anew", 0, x.watcher(0, 4));
        int two = 1 << x.card(unseen) | 1 << x.card(last);
        checks.due("thinks(0, 8): two cards", two, x.thinks(0, 8));
        checks.due("thinks(0, " + unseen + "): two cards", two, x.thinks(0, unseen));
        int seen = 1 << x.glimpse(0, last);
        checks.due("thought anew", 1, x.watcher(0, 4));
        for (int place = 0; place < 16; place++) {
            checks.due("thinks(0, " + place + ")", place == last ? seen : Given.ALL - seen, x.thinks(0, place));
        }
    }

    private static void packIs(Checks checks, int kind, int number, int... due) {
        CardFans x = new CardFans();
        x.go(kind, number, false);
        for (int place = 0; place < 16; place++) {
            checks.due("card(" + place + ")", due[place], x.card(place));
        }
    }

    private static void comes(Checks checks, int kind, int number, int place, int due) {
        CardFans x = new CardFans();
        checks.due("comes(" + kind + ", " + number + ", " + place + ")", due, x.comes(kind, number, place));
        x.go(kind, number, true);
        checks.due("find(" + place + ") after go(" + kind + ", " + number + ", true)", due, x.find(place));
    }
}
