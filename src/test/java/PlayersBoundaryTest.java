/** Promises 12 to 16, one method for each boundary case. */
public final class PlayersBoundaryTest {
    public static void main(String[] args) throws IllegalAccessException {
        Cases.run(PlayersBoundaryTest.class);
    }

    // ---- promise 12: sit

    static void promise12_habitMinus1IsRefused(Checks checks) {
        sitRefuses(checks, -1);
    }

    static void promise12_habit0TheLeastIsTaken(Checks checks) {
        CardFans x = new CardFans();
        checks.due("sit(0)", 0, x.sit(0));
        checks.due("take(0)", 0, x.take(0));
    }

    static void promise12_habit15TheMostIsTaken(Checks checks) {
        CardFans x = new CardFans();
        checks.due("sit(15)", 0, x.sit(15));
        checks.due("take(0)", 15, x.take(0));
    }

    static void promise12_habit16IsRefused(Checks checks) {
        sitRefuses(checks, 16);
    }

    static void promise12_theSmallestAndTheLargestHabitAreRefused(Checks checks) {
        sitRefuses(checks, Given.SMALLEST);
        sitRefuses(checks, Given.LARGEST);
    }

    static void promise12_theFourthPlayerIsNumber3(Checks checks) {
        checks.due("sit(9)", 3, Given.seated(9, 9, 9).sit(9));
    }

    static void promise12_theFifthPlayerIsRefused(Checks checks) {
        CardFans x = Given.seated(1, 2, 3, 4);
        checks.refused("sit(0)", Given.STATE, x, () -> x.sit(0));
        checks.refused("sit(15)", Given.STATE, x, () -> x.sit(15));
    }

    static void promise12_aFifthPlayerWithAWrongHabitIsRefusedForTheHabit(Checks checks) {
        CardFans x = Given.seated(1, 2, 3, 4);
        checks.refused("sit(-1)", Given.ARGUMENT, x, () -> x.sit(-1));
        checks.refused("sit(16)", Given.ARGUMENT, x, () -> x.sit(16));
    }

    static void promise12_aRefusedPlayerIsNotThere(Checks checks) {
        CardFans x = Given.seated(1);
        checks.refused("sit(16)", Given.ARGUMENT, x, () -> x.sit(16));
        checks.due("count(3)", 1, x.count(3));
        checks.refused("took(1)", Given.INDEX, x, () -> x.took(1));
        checks.due("sit(5) then", 1, x.sit(5));
    }

    static void promise12_fourWatchersLeaveRoomForFourPlayers(Checks checks) {
        CardFans x = Given.watched(true, true, false, false);
        for (int player = 0; player < 4; player++) {
            checks.due("sit(2)", player, x.sit(2));
        }
    }

    // ---- promise 13: fan

    static void promise13_leanMinus1IsRefused(Checks checks) {
        fanRefuses(checks, -1);
    }

    static void promise13_lean0TheLeastIsTaken(Checks checks) {
        CardFans x = new CardFans();
        x.fan(7);
        checks.due("fan(0)", 7, x.fan(0));
        checks.due("count(4)", 0, x.count(4));
    }

    static void promise13_lean15TheMostIsTaken(Checks checks) {
        CardFans x = new CardFans();
        x.fan(15);
        checks.due("count(4)", 15, x.count(4));
        checks.due("fan(3)", 15, x.fan(3));
    }

    static void promise13_lean16IsRefused(Checks checks) {
        fanRefuses(checks, 16);
    }

    static void promise13_theSmallestAndTheLargestLeanAreRefused(Checks checks) {
        fanRefuses(checks, Given.SMALLEST);
        fanRefuses(checks, Given.LARGEST);
    }

    static void promise13_theFirstLeanBeforeIs0(Checks checks) {
        checks.due("fan(9)", 0, new CardFans().fan(9));
    }

    static void promise13_theSameLeanAgainIsTheLeanBefore(Checks checks) {
        CardFans x = new CardFans();
        x.fan(9);
        checks.due("fan(9)", 9, x.fan(9));
    }

    static void promise13_aRefusedLeanLeavesTheOneBefore(Checks checks) {
        CardFans x = new CardFans();
        x.fan(9);
        checks.refused("fan(16)", Given.ARGUMENT, x, () -> x.fan(16));
        checks.due("fan(1)", 9, x.fan(1));
    }

    static void promise13_withoutPlayersTheFanLeansToo(Checks checks) {
        CardFans x = new CardFans();
        x.fan(4);
        x.sit(2);
        checks.due("take(0)", 6, x.take(0));
    }

    // ---- promise 14: take

    static void promise14_withoutPlayersThePlayer0IsRefused(Checks checks) {
        CardFans x = new CardFans();
        checks.refused("take(0)", Given.INDEX, x, () -> x.take(0));
    }

    static void promise14_playerMinus1IsRefused(Checks checks) {
        takeRefuses(checks, -1);
    }

    static void promise14_thePlayerAfterTheLastIsRefused(Checks checks) {
        takeRefuses(checks, 1);
    }

    static void promise14_ofFourThePlayer4IsRefused(Checks checks) {
        CardFans x = Given.seated(1, 2, 3, 4);
        checks.refused("take(4)", Given.INDEX, x, () -> x.take(4));
    }

    static void promise14_ofFourThePlayer3Takes(Checks checks) {
        checks.due("take(3)", 14, Given.seated(1, 2, 3, 14).take(3));
    }

    static void promise14_theSmallestAndTheLargestPlayerAreRefused(Checks checks) {
        takeRefuses(checks, Given.SMALLEST);
        takeRefuses(checks, Given.LARGEST);
    }

    static void promise14_aSumOf15IsTheBottom(Checks checks) {
        CardFans x = Given.seated(8);
        x.fan(7);
        checks.due("take(0)", 15, x.take(0));
    }

    static void promise14_aSumOf16IsTheTopAgain(Checks checks) {
        CardFans x = Given.seated(8);
        x.fan(8);
        checks.due("take(0)", 0, x.take(0));
    }

    static void promise14_theMostHabitWithTheMostLeanIsThePlace14(Checks checks) {
        CardFans x = Given.seated(15);
        x.fan(15);
        checks.due("take(0)", 14, x.take(0));
    }

    static void promise14_aSumOf32AndMoreIsTheTopAgain(Checks checks) {
        CardFans x = Given.seated(15);
        x.fan(15);
        x.take(0);
        checks.due("take(0): 31", 15, x.take(0));
        checks.due("take(0): 32", 0, x.take(0));
    }

    static void promise14_after16CardsTheTurnIsRound(Checks checks) {
        CardFans x = Given.seated(3);
        for (int taken = 0; taken < 48; taken++) {
            checks.due("take(0), " + taken + " taken ahead", (3 + taken) % 16, x.take(0));
        }
    }

    static void promise14_theFirstCardIsTakenWithNoneAheadOfIt(Checks checks) {
        checks.due("take(0)", 5, Given.seated(5).take(0));
    }

    static void promise14_theCardsOfAllPlayersAheadCount(Checks checks) {
        CardFans x = Given.seated(5, 5, 5);
        x.take(0);
        x.take(1);
        checks.due("take(2)", 7, x.take(2));
    }

    static void promise14_aRefusedTakeIsNotCounted(Checks checks) {
        CardFans x = Given.seated(5);
        checks.refused("take(1)", Given.INDEX, x, () -> x.take(1));
        checks.due("count(5)", 0, x.count(5));
        checks.due("take(0)", 5, x.take(0));
    }

    static void promise14_theCardIsToldNotThePlace(Checks checks) {
        CardFans x = Given.seated(0);
        x.go(3, 16, false);
        checks.due("take(0)", 15, x.take(0));
    }

    // ---- promise 15: force

    static void promise15_withoutPlayersThePlayer0IsRefused(Checks checks) {
        CardFans x = new CardFans();
        checks.refused("force(0, 0)", Given.INDEX, x, () -> x.force(0, 0));
    }

    static void promise15_playerMinus1IsRefused(Checks checks) {
        forceRefuses(checks, -1, 0);
    }

    static void promise15_thePlayerAfterTheLastIsRefused(Checks checks) {
        forceRefuses(checks, 1, 0);
    }

    static void promise15_ofFourThePlayer4IsRefused(Checks checks) {
        CardFans x = Given.seated(1, 2, 3, 4);
        checks.refused("force(4, 0)", Given.INDEX, x, () -> x.force(4, 0));
    }

    static void promise15_ofFourThePlayer3IsTold(Checks checks) {
        checks.due("force(3, 4)", 2, Given.seated(1, 1, 1, 2).force(3, 4));
    }

    static void promise15_theSmallestAndTheLargestPlayerAreRefused(Checks checks) {
        forceRefuses(checks, Given.SMALLEST, 0);
        forceRefuses(checks, Given.LARGEST, 0);
    }

    static void promise15_cardMinus1IsRefused(Checks checks) {
        forceRefuses(checks, 0, -1);
    }

    static void promise15_card0AndCard15AreTold(Checks checks) {
        CardFans x = Given.seated(3);
        checks.due("force(0, 0)", 13, x.force(0, 0));
        checks.due("force(0, 15)", 12, x.force(0, 15));
    }

    static void promise15_card16IsRefused(Checks checks) {
        forceRefuses(checks, 0, 16);
    }

    static void promise15_theSmallestAndTheLargestCardAreRefused(Checks checks) {
        forceRefuses(checks, 0, Given.SMALLEST);
        forceRefuses(checks, 0, Given.LARGEST);
    }

    static void promise15_aWrongPlayerWithAWrongCardIsRefused(Checks checks) {
        forceRefuses(checks, -1, -1);
        forceRefuses(checks, 1, 16);
    }

    static void promise15_theCardOfTheHabitNeedsTheLean0(Checks checks) {
        checks.due("force(0, 6)", 0, Given.seated(6).force(0, 6));
    }

    static void promise15_theCardJustAboveTheHabitNeedsTheLean15(Checks checks) {
        checks.due("force(0, 5)", 15, Given.seated(6).force(0, 5));
    }

    static void promise15_theMostHabitWrapsRound(Checks checks) {
        CardFans x = Given.seated(15);
        checks.due("force(0, 0)", 1, x.force(0, 0));
        checks.due("force(0, 14)", 15, x.force(0, 14));
    }

    static void promise15_moreThan16CardsTakenWrapRound(Checks checks) {
        CardFans x = Given.seated(15);
        for (int taken = 0; taken < 40; taken++) {
            checks.due("force(0, 0), " + taken + " taken", (1 + 48 - taken) % 16, x.force(0, 0));
            x.take(0);
        }
    }

    static void promise15_theLeanOfNowDoesNotCount(Checks checks) {
        CardFans x = Given.seated(6);
        x.fan(11);
        checks.due("force(0, 9)", 3, x.force(0, 9));
    }

    static void promise15_theCardIsSoughtWhereItIs(Checks checks) {
        CardFans x = Given.seated(6);
        x.go(3, 16, false);
        checks.due("force(0, 9)", 0, x.force(0, 9));
    }

    static void promise15_withThisLeanThisPlayerTakesThisCard(Checks checks) {
        for (int card = 0; card < 16; card++) {
            CardFans x = Given.used();
            x.sit(12);
            x.fan(x.force(1, card));
            checks.due("take(1)", card, x.take(1));
        }
    }

    static void promise15_nothingIsChanged(Checks checks) {
        CardFans x = Given.used();
        long before = x.digest();
        x.force(0, 13);
        checks.due("digest()", before, x.digest());
    }

    // ---- promise 16: took

    static void promise16_withoutPlayersThePlayer0IsRefused(Checks checks) {
        CardFans x = new CardFans();
        checks.refused("took(0)", Given.INDEX, x, () -> x.took(0));
    }

    static void promise16_playerMinus1IsRefused(Checks checks) {
        tookRefuses(checks, -1);
    }

    static void promise16_thePlayerAfterTheLastIsRefused(Checks checks) {
        tookRefuses(checks, 1);
    }

    static void promise16_ofFourThePlayer4IsRefused(Checks checks) {
        CardFans x = Given.seated(1, 2, 3, 4);
        checks.refused("took(4)", Given.INDEX, x, () -> x.took(4));
    }

    static void promise16_ofFourThePlayer3IsTold(Checks checks) {
        CardFans x = Given.seated(1, 2, 3, 4);
        x.take(3);
        checks.due("took(3)", 4, x.took(3));
    }

    static void promise16_theSmallestAndTheLargestPlayerAreRefused(Checks checks) {
        tookRefuses(checks, Given.SMALLEST);
        tookRefuses(checks, Given.LARGEST);
    }

    static void promise16_withNoneTakenItIsMinus1(Checks checks) {
        checks.due("took(0)", -1, Given.seated(0).took(0));
    }

    static void promise16_withNoneTakenByThisOneItIsMinus1(Checks checks) {
        CardFans x = Given.seated(4, 4);
        x.take(0);
        checks.due("took(1)", -1, x.took(1));
    }

    static void promise16_theCard0IsToldAsACard(Checks checks) {
        CardFans x = Given.seated(0);
        x.take(0);
        checks.due("took(0)", 0, x.took(0));
    }

    static void promise16_theLatestOfSeveralIsTold(Checks checks) {
        CardFans x = Given.seated(4, 9);
        x.take(0);
        x.take(0);
        x.take(1);
        checks.due("took(0)", 5, x.took(0));
    }

    static void promise16_aRefusedTakeLeavesIt(Checks checks) {
        CardFans x = Given.seated(4);
        x.take(0);
        checks.refused("take(1)", Given.INDEX, x, () -> x.take(1));
        checks.due("took(0)", 4, x.took(0));
    }

    static void promise16_theCardStaysWhenThePackMoves(Checks checks) {
        CardFans x = Given.seated(4);
        x.take(0);
        x.go(3, 16, true);
        checks.due("took(0)", 4, x.took(0));
    }

    private static void sitRefuses(Checks checks, int habit) {
        CardFans x = Given.used();
        checks.refused("sit(" + habit + ")", Given.ARGUMENT, x, () -> x.sit(habit));
    }

    private static void fanRefuses(Checks checks, int lean) {
        CardFans x = Given.used();
        checks.refused("fan(" + lean + ")", Given.ARGUMENT, x, () -> x.fan(lean));
    }

    private static void takeRefuses(Checks checks, int player) {
        CardFans x = Given.used();
        checks.refused("take(" + player + ")", Given.INDEX, x, () -> x.take(player));
    }

    private static void forceRefuses(Checks checks, int player, int card) {
        CardFans x = Given.used();
        checks.refused("force(" + player + ", " + card + ")", Given.INDEX, x, () -> x.force(player, card));
    }

    private static void tookRefuses(Checks checks, int player) {
        CardFans x = Given.used();
        checks.refused("took(" + player + ")", Given.INDEX, x, () -> x.took(player));
    }
}
