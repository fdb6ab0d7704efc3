/** Promises 7 to 11, one method for each boundary case. */
public final class WatchersBoundaryTest {
    public static void main(String[] args) throws IllegalAccessException {
        Cases.run(WatchersBoundaryTest.class);
    }

    // ---- promise 7: watch

    static void promise07_theFirstWatcherIsNumber0(Checks checks) {
        checks.due("watch(true)", 0, new CardFans().watch(true));
        checks.due("watch(false)", 0, new CardFans().watch(false));
    }

    static void promise07_theFourthWatcherIsNumber3(Checks checks) {
        checks.due("watch(true)", 3, Given.watched(true, false, true).watch(true));
        checks.due("watch(false)", 3, Given.watched(true, false, true).watch(false));
    }

    static void promise07_theFifthWatcherIsRefused(Checks checks) {
        CardFans x = Given.watched(true, false, true, false);
        checks.refused("watch(true)", Given.STATE, x, () -> x.watch(true));
        checks.refused("watch(false)", Given.STATE, x, () -> x.watch(false));
    }

    static void promise07_aRefusedWatcherIsNotThere(Checks checks) {
        CardFans x = Given.watched(true, true, true, true);
        checks.refused("watch(false)", Given.STATE, x, () -> x.watch(false));
        checks.due("count(2)", 4, x.count(2));
        checks.refused("watcher(4, 0)", Given.INDEX, x, () -> x.watcher(4, 0));
        checks.due("falseCut(1)", 0, x.falseCut(1));
    }

    static void promise07_fourPlayersLeaveRoomForFourWatchers(Checks checks) {
        CardFans x = Given.seated(1, 2, 3, 4);
        for (int w = 0; w < 4; w++) {
            checks.due("watch(true)", w, x.watch(true));
        }
    }

    static void promise07_aWatcherWhoComesLaterThinksAllCardsToo(Checks checks) {
        CardFans x = Given.known(true);
        x.go(4, 0, true);
        x.watch(false);
        for (int place = 0; place < 16; place++) {
            checks.due("thinks(1, " + place + ")", Given.ALL, x.thinks(1, place));
        }
    }

    // ---- promise 8: glimpse

    static void promise08_withoutWatchersTheWatcher0IsRefused(Checks checks) {
        CardFans x = new CardFans();
        checks.refused("glimpse(0, 0)", Given.INDEX, x, () -> x.glimpse(0, 0));
    }

    static void promise08_watcherMinus1IsRefused(Checks checks) {
        glimpseRefuses(checks, -1, 0);
    }

    static void promise08_theWatcherAfterTheLastIsRefused(Checks checks) {
        glimpseRefuses(checks, 2, 0);
    }

    static void promise08_ofFourTheWatcher4IsRefused(Checks checks) {
        CardFans x = Given.watched(true, true, true, true);
        checks.refused("glimpse(4, 0)", Given.INDEX, x, () -> x.glimpse(4, 0));
    }

    static void promise08_ofFourTheWatcher3Glimpses(Checks checks) {
        CardFans x = Given.watched(true, true, true, true);
        checks.due("glimpse(3, 2)", 2, x.glimpse(3, 2));
        checks.due("thinks(3, 2)", 4, x.thinks(3, 2));
    }

    static void promise08_theSmallestAndTheLargestWatcherAreRefused(Checks checks) {
        glimpseRefuses(checks, Given.SMALLEST, 0);
        glimpseRefuses(checks, Given.LARGEST, 0);
    }

    static void promise08_placeMinus1IsRefused(Checks checks) {
        glimpseRefuses(checks, 0, -1);
    }

    static void promise08_place0TheTopIsGlimpsed(Checks checks) {
        CardFans x = Given.watched(true);
        checks.due("glimpse(0, 0)", 0, x.glimpse(0, 0));
        checks.due("thinks(0, 0)", 1, x.thinks(0, 0));
    }

    static void promise08_place15TheBottomIsGlimpsed(Checks checks) {
        CardFans x = Given.watched(true);
        checks.due("glimpse(0, 15)", 15, x.glimpse(0, 15));
        checks.due("thinks(0, 15)", 1 << 15, x.thinks(0, 15));
    }

    static void promise08_place16IsRefused(Checks checks) {
        glimpseRefuses(checks, 0, 16);
    }

    static void promise08_theSmallestAndTheLargestPlaceAreRefused(Checks checks) {
        glimpseRefuses(checks, 1, Given.SMALLEST);
        glimpseRefuses(checks, 1, Given.LARGEST);
    }

    static void promise08_aWrongWatcherWithAWrongPlaceIsRefused(Checks checks) {
        glimpseRefuses(checks, -1, -1);
        glimpseRefuses(checks, 2, 16);
    }

    static void promise08_aRefusedGlimpseIsNotCounted(Checks checks) {
        CardFans x = Given.watched(true);
        checks.refused("glimpse(0, 16)", Given.INDEX, x, () -> x.glimpse(0, 16));
        checks.due("watcher(0, 5)", 0, x.watcher(0, 5));
    }

    static void promise08_theCardIsToldNotThePlace(Checks checks) {
        CardFans x = Given.watched(true);
        x.go(3, 16, false);
        checks.due("glimpse(0, 2)", 13, x.glimpse(0, 2));
        checks.due("thinks(0, 2)", 1 << 13, x.thinks(0, 2));
    }

    static void promise08_theSameGlimpseAgainChangesNoThought(Checks checks) {
        CardFans x = Given.glimpsed(3, 3);
        checks.due("watcher(0, 4)", 0, x.watcher(0, 4));
        checks.due("thinks(0, 3)", 8, x.thinks(0, 3));
        checks.due("thinks(0, 4)", Given.ALL - 8, x.thinks(0, 4));
    }

    static void promise08_theFifteenthPlaceSettlesTheSixteenth(Checks checks) {
        for (int left = 0; left < 16; left++) {
            CardFans x = Given.watched(false);
            for (int place = 15; place >= 0; place--) {
                if (place != left) {
                    x.glimpse(0, place);
                }
            }
            checks.due("thinks(0, " + left + ")", 1 << left, x.thinks(0, left));
            checks.due("watcher(0, 4)", 0, x.watcher(0, 4));
        }
    }

    static void promise08_oneWhoKnowsAllAndSeesAnotherCardThinksAllAnew(Checks checks) {
        CardFans x = Given.known(true);
        x.go(3, 2, false);
        checks.due("glimpse(0, 0)", 1, x.glimpse(0, 0));
        checks.due("thinks(0, 0)", 2, x.thinks(0, 0));
        checks.due("thinks(0, 1)", Given.ALL - 2, x.thinks(0, 1));
        checks.due("thinks(0, 15)", Given.ALL - 2, x.thinks(0, 15));
    }

    static void promise08_oneWhoKnowsAllAndSeesTheSameCardDoesNot(Checks checks) {
        CardFans x = Given.known(true);
        x.go(3, 2, false);
        checks.due("glimpse(0, 2)", 2, x.glimpse(0, 2));
        checks.due("watcher(0, 4)", 0, x.watcher(0, 4));
        checks.due("watcher(0, 2)", 16, x.watcher(0, 2));
    }

    static void promise08_theOtherWatchersThinkAsBefore(Checks checks) {
        CardFans x = Given.watched(true, true, false);
        x.glimpse(1, 6);
        checks.due("thinks(0, 6)", Given.ALL, x.thinks(0, 6));
        checks.due("thinks(2, 6)", Given.ALL, x.thinks(2, 6));
    }

    // ---- promise 9: thinks

    static void promise09_withoutWatchersTheWatcher0IsRefused(Checks checks) {
        CardFans x = new CardFans();
        checks.refused("thinks(0, 0)", Given.INDEX, x, () -> x.thinks(0, 0));
    }

    static void promise09_watcherMinus1IsRefused(Checks checks) {
        thinksRefuses(checks, -1, 0);
    }

    static void promise09_theWatcherAfterTheLastIsRefused(Checks checks) {
        thinksRefuses(checks, 2, 0);
    }

    static void promise09_ofFourTheWatcher4IsRefused(Checks checks) {
        CardFans x = Given.watched(true, true, true, true);
        checks.refused("thinks(4, 0)", Given.INDEX, x, () -> x.thinks(4, 0));
    }

    static void promise09_ofFourTheWatcher3IsTold(Checks checks) {
        checks.due("thinks(3, 0)", Given.ALL, Given.watched(true, true, true, true).thinks(3, 0));
    }

    static void promise09_theSmallestAndTheLargestWatcherAreRefused(Checks checks) {
        thinksRefuses(checks, Given.SMALLEST, 0);
        thinksRefuses(checks, Given.LARGEST, 0);
    }

    static void promise09_placeMinus1IsRefused(Checks checks) {
        thinksRefuses(checks, 0, -1);
    }

    static void promise09_place0AndPlace15AreTold(Checks checks) {
        CardFans x = Given.glimpsed(0);
        checks.due("thinks(0, 0)", 1, x.thinks(0, 0));
        checks.due("thinks(0, 15)", Given.ALL - 1, x.thinks(0, 15));
    }

    static void promise09_place16IsRefused(Checks checks) {
        thinksRefuses(checks, 0, 16);
    }

    static void promise09_theSmallestAndTheLargestPlaceAreRefused(Checks checks) {
        thinksRefuses(checks, 1, Given.SMALLEST);
        thinksRefuses(checks, 1, Given.LARGEST);
    }

    static void promise09_aWrongWatcherWithAWrongPlaceIsRefused(Checks checks) {
        thinksRefuses(checks, -1, -1);
        thinksRefuses(checks, 2, 16);
    }

    static void promise09_theFullSetIs65535(Checks checks) {
        checks.due("thinks(0, 7)", 65535, Given.watched(true).thinks(0, 7));
    }

    static void promise09_nothingIsChanged(Checks checks) {
        CardFans x = Given.used();
        long before = x.digest();
        x.thinks(0, 4);
        checks.due("digest()", before, x.digest());
    }

    // ---- promise 10: sure

    static void promise10_withoutWatchersTheWatcher0IsRefused(Checks checks) {
        CardFans x = new CardFans();
        checks.refused("sure(0, 0)", Given.INDEX, x, () -> x.sure(0, 0));
    }

    static void promise10_watcherMinus1IsRefused(Checks checks) {
        sureRefuses(checks, -1, 0);
    }

    static void promise10_theWatcherAfterTheLastIsRefused(Checks checks) {
        sureRefuses(checks, 2, 0);
    }

    static void promise10_ofFourTheWatcher4IsRefused(Checks checks) {
        CardFans x = Given.watched(true, true, true, true);
        checks.refused("sure(4, 0)", Given.INDEX, x, () -> x.sure(4, 0));
    }

    static void promise10_ofFourTheWatcher3IsTold(Checks checks) {
        CardFans x = Given.watched(true, true, true, true);
        x.glimpse(3, 8);
        checks.due("sure(3, 8)", 8, x.sure(3, 8));
        checks.due("sure(2, 8)", -1, x.sure(2, 8));
    }

    static void promise10_theSmallestAndTheLargestWatcherAreRefused(Checks checks) {
        sureRefuses(checks, Given.SMALLEST, 0);
        sureRefuses(checks, Given.LARGEST, 0);
    }

    static void promise10_cardMinus1IsRefused(Checks checks) {
        sureRefuses(checks, 0, -1);
    }

    static void promise10_card0AtTheTopIsThePlace0(Checks checks) {
        checks.due("sure(0, 0)", 0, Given.glimpsed(0).sure(0, 0));
    }

    static void promise10_card15AtTheBottomIsThePlace15(Checks checks) {
        checks.due("sure(0, 15)", 15, Given.glimpsed(15).sure(0, 15));
    }

    static void promise10_card16IsRefused(Checks checks) {
        sureRefuses(checks, 0, 16);
    }

    static void promise10_theSmallestAndTheLargestCardAreRefused(Checks checks) {
        sureRefuses(checks, 1, Given.SMALLEST);
        sureRefuses(checks, 1, Given.LARGEST);
    }

    static void promise10_aWrongWatcherWithAWrongCardIsRefused(Checks checks) {
        sureRefuses(checks, -1, -1);
        sureRefuses(checks, 2, 16);
    }

    static void promise10_withoutSuchAPlaceItIsMinus1(Checks checks) {
        CardFans x = Given.watched(true);
        for (int card = 0; card < 16; card++) {
            checks.due("sure(0, " + card + ")", -1, x.sure(0, card));
        }
    }

    static void promise10_aCardThoughtAmongTwoIsMinus1(Checks checks) {
        CardFans x = Given.glimpsed(0, 1, 2, 3, 4, 5, 6, 7, 8, 9, 10, 11, 12, 13);
        checks.due("sure(0, 14)", -1, x.sure(0, 14));
        checks.due("sure(0, 15)", -1, x.sure(0, 15));
        checks.due("sure(0, 13)", 13, x.sure(0, 13));
    }

    static void promise10_aCardThatIsStruckEverywhereIsMinus1(Checks checks) {
        CardFans x = Given.glimpsed(9);
        x.go(0, 1, false);
        x.glimpse(0, 9);
        checks.due("sure(0, 9)", -1, x.sure(0, 9));
        checks.due("sure(0, 10)", 9, x.sure(0, 10));
    }

    static void promise10_aPlaceThatIsThoughtWronglyIsTold(Checks checks) {
        CardFans x = Given.glimpsed(0);
        x.go(0, 1, false);
        checks.due("sure(0, 0)", 0, x.sure(0, 0));
        checks.due("find(0)", 15, x.find(0));
    }

    static void promise10_nothingIsChanged(Checks checks) {
        CardFans x = Given.used();
        long before = x.digest();
        x.sure(0, 4);
        checks.due("digest()", before, x.digest());
    }

    // ---- promise 11: watcher

    static void promise11_withoutWatchersTheWatcher0IsRefused(Checks checks) {
        CardFans x = new CardFans();
        checks.refused("watcher(0, 0)", Given.INDEX, x, () -> x.watcher(0, 0));
    }

    static void promise11_watcherMinus1IsRefused(Checks checks) {
        watcherRefuses(checks, -1, 0);
    }

    static void promise11_theWatcherAfterTheLastIsRefused(Checks checks) {
        watcherRefuses(checks, 2, 0);
    }

    static void promise11_ofFourTheWatcher4IsRefused(Checks checks) {
        CardFans x = Given.watched(true, true, true, true);
        checks.refused("watcher(4, 0)", Given.INDEX, x, () -> x.watcher(4, 0));
    }

    static void promise11_ofFourTheWatcher3IsTold(Checks checks) {
        checks.due("watcher(3, 0)", 1, Given.watched(false, false, false, true).watcher(3, 0));
    }

    static void promise11_theSmallestAndTheLargestWatcherAreRefused(Checks checks) {
        watcherRefuses(checks, Given.SMALLEST, 0);
        watcherRefuses(checks, Given.LARGEST, 0);
    }

    static void promise11_whatMinus1IsRefused(Checks checks) {
        watcherRefuses(checks, 0, -1);
    }

    static void promise11_what6IsRefused(Checks checks) {
        watcherRefuses(checks, 0, 6);
    }

    static void promise11_theSmallestAndTheLargestWhatAreRefused(Checks checks) {
        watcherRefuses(checks, 0, Given.SMALLEST);
        watcherRefuses(checks, 0, Given.LARGEST);
    }

    static void promise11_aWrongWatcherWithAWrongWhatIsRefused(Checks checks) {
        watcherRefuses(checks, -1, -1);
        watcherRefuses(checks, 2, 6);
    }

    static void promise11_what0IsOneIfSharpElseZero(Checks checks) {
        checks.due("watcher(0, 0) of a sharp one", 1, Given.watched(true).watcher(0, 0));
        checks.due("watcher(0, 0) of another", 0, Given.watched(false).watcher(0, 0));
    }

    static void promise11_what1IsAll16AtFirst(Checks checks) {
        checks.due("watcher(0, 1)", 16, Given.watched(true).watcher(0, 1));
    }

    static void promise11_what1Is16IfEachIsThoughtAloneAndRight(Checks checks) {
        checks.due("watcher(0, 1)", 16, Given.known(true).watcher(0, 1));
    }

    static void promise11_what1CountsACardThoughtAmongOthersAndNoneThatIsStruck(Checks checks) {
        CardFans x = Given.glimpsed(9);
        x.go(0, 1, false);
        checks.due("watcher(0, 1): all but the places 8 and 9", 14, x.watcher(0, 1));
    }

    static void promise11_what1IsZeroIfAllAreWrong(Checks checks) {
        CardFans x = Given.known(true);
        x.go(0, 1, false);
        checks.due("watcher(0, 1)", 0, x.watcher(0, 1));
    }

    static void promise11_what2IsZeroAtFirst(Checks checks) {
        checks.due("watcher(0, 2)", 0, Given.watched(true).watcher(0, 2));
    }

    static void promise11_what2CountsNoPlaceOfTwoCards(Checks checks) {
        CardFans x = Given.glimpsed(0, 1, 2, 3, 4, 5, 6, 7, 8, 9, 10, 11, 12, 13);
        checks.due("watcher(0, 2)", 14, x.watcher(0, 2));
    }

    static void promise11_what2Is16AfterTheFifteenthGlimpse(Checks checks) {
        CardFans x = Given.glimpsed(0, 1, 2, 3, 4, 5, 6, 7, 8, 9, 10, 11, 12, 13, 14);
        checks.due("watcher(0, 2)", 16, x.watcher(0, 2));
    }

    static void promise11_what2CountsThoseThatAreWrongToo(Checks checks) {
        CardFans x = Given.known(true);
        x.go(0, 1, false);
        checks.due("watcher(0, 2)", 16, x.watcher(0, 2));
    }

    static void promise11_what3IsZeroAtFirstThoughEachCardIsThoughtAmongOthers(Checks checks) {
        checks.due("watcher(0, 3)", 0, Given.watched(true).watcher(0, 3));
    }

    static void promise11_what3Is16IfAllIsKnown(Checks checks) {
        checks.due("watcher(0, 3)", 16, Given.known(true).watcher(0, 3));
    }

    static void promise11_what3IsZeroIfAllAreWrong(Checks checks) {
        CardFans x = Given.known(true);
        x.go(0, 1, false);
        checks.due("watcher(0, 3)", 0, x.watcher(0, 3));
    }

    static void promise11_what3CountsTheRightOnesAlone(Checks checks) {
        CardFans x = Given.known(true);
        x.go(3, 2, false);
        checks.due("watcher(0, 3)", 14, x.watcher(0, 3));
    }

    static void promise11_what4IsZeroWithoutAContradiction(Checks checks) {
        checks.due("watcher(0, 4)", 0, Given.known(false).watcher(0, 4));
    }

    static void promise11_what4CountsEachTime(Checks checks) {
        CardFans x = Given.glimpsed(0);
        for (int times = 1; times <= 3; times++) {
            x.go(0, 1, false);
            checks.due("glimpse(0, " + (16 - times) + ")", 0, x.glimpse(0, 16 - times));
            checks.due("watcher(0, 4)", times, x.watcher(0, 4));
        }
    }

    static void promise11_what5IsZeroAtFirst(Checks checks) {
        checks.due("watcher(0, 5)", 0, Given.watched(true).watcher(0, 5));
    }

    static void promise11_what5CountsTheSameGlimpseAgain(Checks checks) {
        checks.due("watcher(0, 5)", 3, Given.glimpsed(3, 3, 3).watcher(0, 5));
    }

    static void promise11_what5CountsTheGlimpseThatWasThoughtAnew(Checks checks) {
        CardFans x = Given.glimpsed(0);
        x.go(0, 1, false);
        x.glimpse(0, 15);
        checks.due("watcher(0, 5)", 2, x.watcher(0, 5));
    }

    static void promise11_what5IsOfThisWatcherAlone(Checks checks) {
        CardFans x = Given.watched(true, true);
        x.glimpse(1, 5);
        checks.due("watcher(0, 5)", 0, x.watcher(0, 5));
        checks.due("watcher(1, 5)", 1, x.watcher(1, 5));
    }

    static void promise11_nothingIsChanged(Checks checks) {
        CardFans x = Given.used();
        long before = x.digest();
        for (int what = 0; what < 6; what++) {
            x.watcher(1, what);
        }
        checks.due("digest()", before, x.digest());
    }

    private static void glimpseRefuses(Checks checks, int watcher, int place) {
        CardFans x = Given.used();
        checks.refused("glimpse(" + watcher + ", " + place + ")", Given.INDEX, x, () -> x.glimpse(watcher, place));
    }

    private static void thinksRefuses(Checks checks, int watcher, int place) {
        CardFans x = Given.used();
        checks.refused("thinks(" + watcher + ", " + place + ")", Given.INDEX, x, () -> x.thinks(watcher, place));
    }

    private static void sureRefuses(Checks checks, int watcher, int card) {
        CardFans x = Given.used();
        checks.refused("sure(" + watcher + ", " + card + ")", Given.INDEX, x, () -> x.sure(watcher, card));
    }

    private static void watcherRefuses(Checks checks, int watcher, int what) {
        CardFans x = Given.used();
        checks.refused("watcher(" + watcher + ", " + what + ")", Given.INDEX, x, () -> x.watcher(watcher, what));
    }
}
