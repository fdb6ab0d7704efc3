/** Promises 1 to 6, one method for each boundary case. */
public final class WaysBoundaryTest {
    public static void main(String[] args) throws IllegalAccessException {
        Cases.run(WaysBoundaryTest.class);
    }

    // ---- promise 1: a new object

    static void promise01_aNewPackIsInItsOrder(Checks checks) {
        CardFans x = new CardFans();
        for (int k = 0; k < 16; k++) {
            checks.due("card(" + k + ")", k, x.card(k));
        }
    }

    static void promise01_aNewPackHasNoWatchers(Checks checks) {
        CardFans x = new CardFans();
        checks.due("count(2)", 0, x.count(2));
        checks.refused("thinks(0, 0)", Given.INDEX, x, () -> x.thinks(0, 0));
    }

    static void promise01_aNewPackHasNoPlayers(Checks checks) {
        CardFans x = new CardFans();
        checks.due("count(3)", 0, x.count(3));
        checks.refused("took(0)", Given.INDEX, x, () -> x.took(0));
    }

    static void promise01_aNewPackIsNotTouchedByAnotherThatIsUsed(Checks checks) {
        CardFans x = new CardFans();
        long before = x.digest();
        CardFans other = Given.used();
        other.back(4, 0);
        checks.due("digest()", before, x.digest());
        checks.due("digest() of a pack made later", before, new CardFans().digest());
    }

    // ---- promise 2: go

    static void promise02_kindMinus1IsRefused(Checks checks) {
        goRefuses(checks, -1, 0);
        goRefuses(checks, -1, 1);
    }

    static void promise02_kind5IsRefused(Checks checks) {
        goRefuses(checks, 5, 0);
        goRefuses(checks, 5, 2);
    }

    static void promise02_theSmallestAndTheLargestKindAreRefused(Checks checks) {
        goRefuses(checks, Given.SMALLEST, 0);
        goRefuses(checks, Given.LARGEST, 0);
    }

    static void promise02_kind0TheFirstIsDone(Checks checks) {
        checks.due("go(0, 7, true)", 7, new CardFans().go(0, 7, true));
    }

    static void promise02_kind4TheLastIsDone(Checks checks) {
        CardFans x = new CardFans();
        checks.due("go(4, 0, true)", 0, x.go(4, 0, true));
        checks.due("find(15)", 8, x.find(15));
    }

    static void promise02_cutBy0IsRefused(Checks checks) {
        goRefuses(checks, 0, 0);
    }

    static void promise02_cutBy1TheLeastIsDone(Checks checks) {
        checks.due("go(0, 1, false)", 1, new CardFans().go(0, 1, false));
    }

    static void promise02_cutBy15TheMostIsDone(Checks checks) {
        checks.due("go(0, 15, false)", 15, new CardFans().go(0, 15, false));
    }

    static void promise02_cutBy16IsRefused(Checks checks) {
        goRefuses(checks, 0, 16);
    }

    static void promise02_cutByANegativeNumberIsRefused(Checks checks) {
        goRefuses(checks, 0, -1);
        goRefuses(checks, 0, -15);
        goRefuses(checks, 0, Given.SMALLEST);
    }

    static void promise02_cutByFarTooManyIsRefused(Checks checks) {
        goRefuses(checks, 0, 17);
        goRefuses(checks, 0, Given.LARGEST);
    }

    static void promise02_riffleOutWithAnyNumberBut0IsRefused(Checks checks) {
        goRefusesNumbersBut0(checks, 1);
    }

    static void promise02_riffleInWithAnyNumberBut0IsRefused(Checks checks) {
        goRefusesNumbersBut0(checks, 2);
    }

    static void promise02_dealWithAnyNumberBut0IsRefused(Checks checks) {
        goRefusesNumbersBut0(checks, 4);
    }

    static void promise02_foldBy1IsRefused(Checks checks) {
        goRefuses(checks, 3, 1);
    }

    static void promise02_foldBy2TheLeastIsDone(Checks checks) {
        checks.due("go(3, 2, true)", 1, new CardFans().go(3, 2, true));
    }

    static void promise02_foldBy16TheMostIsDone(Checks checks) {
        checks.due("go(3, 16, true)", 15, new CardFans().go(3, 16, true));
    }

    static void promise02_foldBy17IsRefused(Checks checks) {
        goRefuses(checks, 3, 17);
    }

    static void promise02_foldBy0AndByANegativeNumberIsRefused(Checks checks) {
        goRefuses(checks, 3, 0);
        goRefuses(checks, 3, -1);
        goRefuses(checks, 3, -2);
        goRefuses(checks, 3, Given.SMALLEST);
    }

    static void promise02_foldByFarTooManyIsRefused(Checks checks) {
        goRefuses(checks, 3, Given.LARGEST);
    }

    static void promise02_ofAllKindsAndNumbersNearbyJustTheWaysAreDone(Checks checks) {
        for (int kind = -2; kind <= 6; kind++) {
            for (int number = -17; number <= 33; number++) {
                if (Given.isWay(kind, number)) {
                    CardFans x = new CardFans();
                    int top = x.go(kind, number, number % 2 == 0);
                    checks.due("card(0) after go(" + kind + ", " + number + ", ..)", top, x.card(0));
                    checks.due("count(0) after go(" + kind + ", " + number + ", ..)", 1, x.count(0));
                } else {
                    goRefuses(checks, kind, number);
                }
            }
        }
    }

    static void promise02_theCardAtTheTopIsThatOfThen(Checks checks) {
        CardFans x = new CardFans();
        checks.due("go(2, 0, false)", 8, x.go(2, 0, false));
        checks.due("go(2, 0, true)", 12, x.go(2, 0, true));
        checks.due("go(1, 0, true)", 12, x.go(1, 0, true));
        checks.due("go(0, 15, false): the bottom", 3, x.go(0, 15, false));
    }

    static void promise02_withoutWatchersAnOpenWayIsDone(Checks checks) {
        CardFans x = new CardFans();
        checks.due("go(0, 9, true)", 9, x.go(0, 9, true));
        checks.due("count(0)", 1, x.count(0));
    }

    static void promise02_allFourWatchersFollowAnOpenWay(Checks checks) {
        CardFans x = Given.watched(true, false, true, false);
        for (int w = 0; w < 4; w++) {
            x.glimpse(w, 15);
        }
        x.go(3, 16, true);
        for (int w = 0; w < 4; w++) {
            checks.due("sure(" + w + ", 15)", 0, x.sure(w, 15));
        }
    }

    // ---- promise 3: falseCut

    static void promise03_by0IsRefused(Checks checks) {
        falseCutRefuses(checks, 0);
    }

    static void promise03_by1TheLeastIsTakenForATrueOne(Checks checks) {
        CardFans x = Given.known(false);
        checks.due("falseCut(1)", 1, x.falseCut(1));
        checks.due("thinks(0, 15)", 1, x.thinks(0, 15));
        checks.due("thinks(0, 0)", 2, x.thinks(0, 0));
    }

    static void promise03_by15TheMostIsTakenForATrueOne(Checks checks) {
        CardFans x = Given.known(false);
        checks.due("falseCut(15)", 1, x.falseCut(15));
        checks.due("thinks(0, 0)", 1 << 15, x.thinks(0, 0));
        checks.due("thinks(0, 15)", 1 << 14, x.thinks(0, 15));
    }

    static void promise03_by16IsRefused(Checks checks) {
        falseCutRefuses(checks, 16);
    }

    static void promise03_byANegativeNumberIsRefused(Checks checks) {
        falseCutRefuses(checks, -1);
        falseCutRefuses(checks, Given.SMALLEST);
    }

    static void promise03_byFarTooManyIsRefused(Checks checks) {
        falseCutRefuses(checks, 17);
        falseCutRefuses(checks, Given.LARGEST);
    }

    static void promise03_ofAllNumbersNearby1To15AreDone(Checks checks) {
        for (int number = -17; number <= 33; number++) {
            if (number >= 1 && number <= 15) {
                CardFans x = Given.known(false);
                checks.due("falseCut(" + number + ")", 1, x.falseCut(number));
                checks.due("thinks(0, 0) after falseCut(" + number + ")", 1 << number, x.thinks(0, 0));
                checks.due("thinks(0, 15) after falseCut(" + number + ")", 1 << number - 1, x.thinks(0, 15));
            } else {
                falseCutRefuses(checks, number);
            }
        }
    }

    static void promise03_withoutWatchersNoneIsLedAstray(Checks checks) {
        CardFans x = new CardFans();
        checks.due("falseCut(8)", 0, x.falseCut(8));
        checks.due("count(1)", 1, x.count(1));
    }

    static void promise03_withoutWatchersAWrongNumberIsRefused(Checks checks) {
        CardFans x = new CardFans();
        checks.refused("falseCut(0)", Given.ARGUMENT, x, () -> x.falseCut(0));
        checks.refused("falseCut(16)", Given.ARGUMENT, x, () -> x.falseCut(16));
    }

    static void promise03_beforeSharpWatchersAloneNoneIsLedAstray(Checks checks) {
        checks.due("falseCut(8)", 0, Given.watched(true, true, true, true).falseCut(8));
    }

    static void promise03_beforeFourWhoAreNotSharpAllAreLedAstray(Checks checks) {
        checks.due("falseCut(8)", 4, Given.watched(false, false, false, false).falseCut(8));
    }

    static void promise03_beforeSomeTheOthersAreCounted(Checks checks) {
        checks.due("falseCut(8)", 1, Given.watched(true, true, true, false).falseCut(8));
        checks.due("falseCut(8)", 3, Given.watched(false, true, false, false).falseCut(8));
    }

    static void promise03_aWatcherWhoKnowsNothingIsLedAstrayToo(Checks checks) {
        CardFans x = Given.watched(false);
        long before = x.digest();
        checks.due("falseCut(8)", 1, x.falseCut(8));
        checks.due("thinks(0, 0)", Given.ALL, x.thinks(0, 0));
        checks.that("the false cut is counted", before != x.digest());
    }

    static void promise03_theSharpThinkAsBefore(Checks checks) {
        CardFans x = Given.known(true);
        x.falseCut(5);
        for (int place = 0; place < 16; place++) {
            checks.due("thinks(0, " + place + ")", 1 << place, x.thinks(0, place));
        }
    }

    static void promise03_nothingMoves(Checks checks) {
        CardFans x = Given.watched(false);
        x.falseCut(1);
        x.falseCut(15);
        for (int place = 0; place < 16; place++) {
            checks.due("card(" + place + ")", place, x.card(place));
        }
    }

    static void promise03_isNotCountedAmongTheWays(Checks checks) {
        CardFans x = Given.watched(false);
        x.falseCut(1);
        checks.due("count(0)", 0, x.count(0));
        checks.due("count(1)", 1, x.count(1));
    }

    // ---- promise 4: comes

    static void promise04_kindMinus1IsRefused(Checks checks) {
        comesRefusesWay(checks, -1, 0);
        comesRefusesWay(checks, -1, 1);
    }

    static void promise04_kind5IsRefused(Checks checks) {
        comesRefusesWay(checks, 5, 0);
        comesRefusesWay(checks, 5, 2);
    }

    static void promise04_theSmallestAndTheLargestKindAreRefused(Checks checks) {
        comesRefusesWay(checks, Given.SMALLEST, 0);
        comesRefusesWay(checks, Given.LARGEST, 0);
    }

    static void promise04_cutBy0IsRefused(Checks checks) {
        comesRefusesWay(checks, 0, 0);
    }

    static void promise04_cutBy1And15AreTold(Checks checks) {
        CardFans x = new CardFans();
        checks.due("comes(0, 1, 0)", 15, x.comes(0, 1, 0));
        checks.due("comes(0, 1, 15)", 14, x.comes(0, 1, 15));
        checks.due("comes(0, 15, 0)", 1, x.comes(0, 15, 0));
        checks.due("comes(0, 15, 15)", 0, x.comes(0, 15, 15));
    }

    static void promise04_cutBy16IsRefused(Checks checks) {
        comesRefusesWay(checks, 0, 16);
    }

    static void promise04_cutByANegativeNumberIsRefused(Checks checks) {
        comesRefusesWay(checks, 0, -1);
        comesRefusesWay(checks, 0, Given.SMALLEST);
    }

    static void promise04_cutByFarTooManyIsRefused(Checks checks) {
        comesRefusesWay(checks, 0, Given.LARGEST);
    }

    static void promise04_riffleOutWithAnyNumberBut0IsRefused(Checks checks) {
        comesRefusesNumbersBut0(checks, 1);
    }

    static void promise04_riffleInWithAnyNumberBut0IsRefused(Checks checks) {
        comesRefusesNumbersBut0(checks, 2);
    }

    static void promise04_dealWithAnyNumberBut0IsRefused(Checks checks) {
        comesRefusesNumbersBut0(checks, 4);
    }

    static void promise04_foldBy1IsRefused(Checks checks) {
        comesRefusesWay(checks, 3, 1);
    }

    static void promise04_foldBy2And16AreTold(Checks checks) {
        CardFans x = new CardFans();
        checks.due("comes(3, 2, 0)", 1, x.comes(3, 2, 0));
        checks.due("comes(3, 2, 2)", 2, x.comes(3, 2, 2));
        checks.due("comes(3, 16, 0)", 15, x.comes(3, 16, 0));
        checks.due("comes(3, 16, 15)", 0, x.comes(3, 16, 15));
    }

    static void promise04_foldBy17IsRefused(Checks checks) {
        comesRefusesWay(checks, 3, 17);
    }

    static void promise04_foldBy0AndByANegativeNumberIsRefused(Checks checks) {
        comesRefusesWay(checks, 3, 0);
        comesRefusesWay(checks, 3, -1);
        comesRefusesWay(checks, 3, Given.SMALLEST);
    }

    static void promise04_foldByFarTooManyIsRefused(Checks checks) {
        comesRefusesWay(checks, 3, Given.LARGEST);
    }

    static void promise04_ofAllKindsAndNumbersNearbyJustTheWaysAreTold(Checks checks) {
        for (int kind = -2; kind <= 6; kind++) {
            for (int number = -17; number <= 33; number++) {
                if (Given.isWay(kind, number)) {
                    comesAsGoBrings(checks, kind, number);
                } else {
                    comesRefusesWay(checks, kind, number);
                }
            }
        }
    }

    static void promise04_placeMinus1IsRefused(Checks checks) {
        comesRefusesPlace(checks, -1);
    }

    static void promise04_place16IsRefused(Checks checks) {
        comesRefusesPlace(checks, 16);
    }

    static void promise04_theSmallestAndTheLargestPlaceAreRefused(Checks checks) {
        comesRefusesPlace(checks, Given.SMALLEST);
        comesRefusesPlace(checks, Given.LARGEST);
    }

    static void promise04_place0AndPlace15AreTold(Checks checks) {
        CardFans x = new CardFans();
        checks.due("comes(2, 0, 0)", 1, x.comes(2, 0, 0));
        checks.due("comes(2, 0, 15)", 14, x.comes(2, 0, 15));
    }

    static void promise04_ofAWrongWayAndAWrongPlaceTheWayIsNamedFirst(Checks checks) {
        CardFans x = Given.used();
        checks.refused("comes(-1, 0, -1)", Given.ARGUMENT, x, () -> x.comes(-1, 0, -1));
        checks.refused("comes(0, 16, 16)", Given.ARGUMENT, x, () -> x.comes(0, 16, 16));
        checks.refused("comes(3, 1, -1)", Given.ARGUMENT, x, () -> x.comes(3, 1, -1));
        checks.refused("comes(4, 1, 16)", Given.ARGUMENT, x, () -> x.comes(4, 1, 16));
    }

    static void promise04_nothingIsChanged(Checks checks) {
        CardFans x = Given.used();
        long before = x.digest();
        x.comes(0, 3, 4);
        x.comes(4, 0, 15);
        checks.due("digest()", before, x.digest());
    }

    static void promise04_isOfThePlaceWhateverTheCardThere(Checks checks) {
        CardFans x = new CardFans();
        x.go(3, 16, true);
        checks.due("comes(1, 0, 7)", 14, x.comes(1, 0, 7));
    }

    // ---- promise 5: card

    static void promise05_placeMinus1IsRefused(Checks checks) {
        cardRefuses(checks, -1);
    }

    static void promise05_place0IsTheTop(Checks checks) {
        CardFans x = new CardFans();
        int top = x.go(0, 6, true);
        checks.due("card(0)", top, x.card(0));
        checks.due("card(0)", 6, x.card(0));
    }

    static void promise05_place15IsTheBottom(Checks checks) {
        CardFans x = new CardFans();
        x.go(0, 6, true);
        checks.due("card(15)", 5, x.card(15));
    }

    static void promise05_place16IsRefused(Checks checks) {
        cardRefuses(checks, 16);
    }

    static void promise05_theSmallestAndTheLargestPlaceAreRefused(Checks checks) {
        cardRefuses(checks, Given.SMALLEST);
        cardRefuses(checks, Given.LARGEST);
    }

    // ---- promise 6: find

    static void promise06_cardMinus1IsRefused(Checks checks) {
        findRefuses(checks, -1);
    }

    static void promise06_card0TheFirstIsFound(Checks checks) {
        CardFans x = new CardFans();
        checks.due("find(0)", 0, x.find(0));
        x.go(3, 16, false);
        checks.due("find(0) at the bottom", 15, x.find(0));
    }

    static void promise06_card15TheLastIsFound(Checks checks) {
        CardFans x = new CardFans();
        checks.due("find(15)", 15, x.find(15));
        x.go(3, 16, false);
        checks.due("find(15) at the top", 0, x.find(15));
    }

    static void promise06_card16IsRefused(Checks checks) {
        findRefuses(checks, 16);
    }

    static void promise06_theSmallestAndTheLargestCardAreRefused(Checks checks) {
        findRefuses(checks, Given.SMALLEST);
        findRefuses(checks, Given.LARGEST);
    }

    static void promise06_findIsThePlaceNotTheCardThere(Checks checks) {
        CardFans x = new CardFans();
        x.go(0, 5, true);
        checks.due("find(5)", 0, x.find(5));
        checks.due("find(0)", 11, x.find(0));
    }

    private static void goRefuses(Checks checks, int kind, int number) {
        CardFans x = Given.used();
        String call = "go(" + kind + ", " + number;
        checks.refused(call + ", true)", Given.ARGUMENT, x, () -> x.go(kind, number, true));
        checks.refused(call + ", false)", Given.ARGUMENT, x, () -> x.go(kind, number, false));
    }

    private static void goRefusesNumbersBut0(Checks checks, int kind) {
        for (int number : new int[] {-1, 1, 2, 8, 15, 16, 17, Given.SMALLEST, Given.LARGEST}) {
            goRefuses(checks, kind, number);
        }
        CardFans x = Given.used();
        x.go(kind, 0, true);
        checks.due("count(0) after go(" + kind + ", 0, true)", 3, x.count(0));
    }

    private static void falseCutRefuses(Checks checks, int number) {
        CardFans x = Given.used();
        checks.refused("falseCut(" + number + ")", Given.ARGUMENT, x, () -> x.falseCut(number));
    }

    private static void comesRefusesWay(Checks checks, int kind, int number) {
        CardFans x = Given.used();
        String call = "comes(" + kind + ", " + number + ", ";
        checks.refused(call + "0)", Given.ARGUMENT, x, () -> x.comes(kind, number, 0));
        checks.refused(call + "15)", Given.ARGUMENT, x, () -> x.comes(kind, number, 15));
    }

    private static void comesAsGoBrings(Checks checks, int kind, int number) {
        CardFans x = new CardFans();
        x.go(kind, number, false);
        for (int place = 0; place < 16; place++) {
            String call = "comes(" + kind + ", " + number + ", " + place + ")";
            checks.due(call, x.find(place), x.comes(kind, number, place));
        }
    }

    private static void comesRefusesNumbersBut0(Checks checks, int kind) {
        for (int number : new int[] {-1, 1, 2, 8, 15, 16, 17, Given.SMALLEST, Given.LARGEST}) {
            comesRefusesWay(checks, kind, number);
        }
        int place = new CardFans().comes(kind, 0, 3);
        checks.that("comes(" + kind + ", 0, 3) is a place: " + place, place >= 0 && place <= 15);
    }

    private static void comesRefusesPlace(Checks checks, int place) {
        CardFans x = Given.used();
        for (int[] way : new int[][] {{0, 1}, {0, 15}, {1, 0}, {2, 0}, {3, 2}, {3, 16}, {4, 0}}) {
            String call = "comes(" + way[0] + ", " + way[1] + ", " + place + ")";
            checks.refused(call, Given.INDEX, x, () -> x.comes(way[0], way[1], place));
        }
    }

    private static void cardRefuses(Checks checks, int place) {
        CardFans x = Given.used();
        checks.refused("card(" + place + ")", Given.INDEX, x, () -> x.card(place));
    }

    private static void findRefuses(Checks checks, int card) {
        CardFans x = Given.used();
        checks.refused("find(" + card + ")", Given.INDEX, x, () -> x.find(card));
    }
}
