/** Promises 17 to 22, one method for each boundary case. */
public final class CountsBoundaryTest {
    public static void main(String[] args) throws IllegalAccessException {
        Cases.run(CountsBoundaryTest.class);
    }

    // ---- promise 17: count

    static void promise17_whatMinus1IsRefused(Checks checks) {
        countRefuses(checks, -1);
    }

    static void promise17_what7IsRefused(Checks checks) {
        countRefuses(checks, 7);
    }

    static void promise17_theSmallestAndTheLargestWhatAreRefused(Checks checks) {
        countRefuses(checks, Given.SMALLEST);
        countRefuses(checks, Given.LARGEST);
    }

    static void promise17_what0To5AreZeroAtFirst(Checks checks) {
        CardFans x = new CardFans();
        for (int what = 0; what < 6; what++) {
            checks.due("count(" + what + ")", 0, x.count(what));
        }
    }

    static void promise17_what0CountsOpenAndHiddenWays(Checks checks) {
        CardFans x = new CardFans();
        x.go(0, 1, true);
        x.go(4, 0, false);
        checks.due("count(0)", 2, x.count(0));
    }

    static void promise17_what0CountsNoFalseCut(Checks checks) {
        CardFans x = new CardFans();
        x.falseCut(3);
        checks.due("count(0)", 0, x.count(0));
    }

    static void promise17_what0CountsNoRefusedWay(Checks checks) {
        CardFans x = new CardFans();
        checks.refused("go(0, 0, true)", Given.ARGUMENT, x, () -> x.go(0, 0, true));
        checks.due("count(0)", 0, x.count(0));
    }

    static void promise17_what0CountsNoWayThatIsTriedAlone(Checks checks) {
        CardFans x = new CardFans();
        x.comes(0, 1, 0);
        x.back(4, 0);
        x.bring(0, 10);
        x.riffles(0, 15);
        checks.due("count(0)", 0, x.count(0));
    }

    static void promise17_what1CountsFalseCutsThoughNoneIsLedAstray(Checks checks) {
        CardFans x = new CardFans();
        x.falseCut(1);
        x.falseCut(15);
        checks.due("count(1)", 2, x.count(1));
    }

    static void promise17_what1CountsNoTrueAndNoRefusedCut(Checks checks) {
        CardFans x = new CardFans();
        x.go(0, 3, true);
        checks.refused("falseCut(16)", Given.ARGUMENT, x, () -> x.falseCut(16));
        checks.due("count(1)", 0, x.count(1));
    }

    static void promise17_what1CountsOnceWhateverManyWatch(Checks checks) {
        CardFans x = Given.watched(false, false, false, false);
        x.falseCut(5);
        checks.due("count(1)", 1, x.count(1));
    }

    static void promise17_what2IsFourWithFourWatchersAndARefusedOne(Checks checks) {
        CardFans x = Given.watched(true, true, false, false);
        checks.refused("watch(true)", Given.STATE, x, () -> x.watch(true));
        checks.due("count(2)", 4, x.count(2));
        checks.due("count(3)", 0, x.count(3));
    }

    static void promise17_what3IsFourWithFourPlayersAndARefusedOne(Checks checks) {
        CardFans x = Given.seated(0, 5, 10, 15);
        checks.refused("sit(0)", Given.STATE, x, () -> x.sit(0));
        checks.due("count(3)", 4, x.count(3));
        checks.due("count(2)", 0, x.count(2));
    }

    static void promise17_what4IsTheLeanOfNow(Checks checks) {
        CardFans x = new CardFans();
        x.fan(3);
        x.fan(15);
        checks.due("count(4)", 15, x.count(4));
    }

    static void promise17_what5GoesOnBeyond16(Checks checks) {
        CardFans x = Given.seated(0, 1);
        for (int taken = 0; taken < 33; taken++) {
            x.take(taken % 2);
        }
        checks.due("count(5)", 33, x.count(5));
    }

    static void promise17_what5CountsNoForceAndNoRefusedTake(Checks checks) {
        CardFans x = Given.seated(0);
        x.force(0, 3);
        checks.refused("take(-1)", Given.INDEX, x, () -> x.take(-1));
        checks.due("count(5)", 0, x.count(5));
    }

    static void promise17_what6IsAll16InOrder(Checks checks) {
        checks.due("count(6)", 16, new CardFans().count(6));
    }

    static void promise17_what6IsZeroWithNoneAtItsPlace(Checks checks) {
        CardFans x = new CardFans();
        x.go(0, 1, true);
        checks.due("count(6)", 0, x.count(6));
    }

    static void promise17_what6CountsThoseAtTheirPlace(Checks checks) {
        CardFans x = new CardFans();
        x.go(1, 0, true);
        checks.due("count(6): the top and the bottom", 2, x.count(6));
    }

    static void promise17_what6IsAll16WhenThePackIsBackInItsOrder(Checks checks) {
        CardFans x = new CardFans();
        x.go(0, 9, true);
        x.go(0, 7, false);
        checks.due("count(6)", 16, x.count(6));
    }

    // ---- promise 18: back

    static void promise18_kindMinus1IsRefused(Checks checks) {
        backRefuses(checks, -1, 0);
        backRefuses(checks, -1, 1);
    }

    static void promise18_kind5IsRefused(Checks checks) {
        backRefuses(checks, 5, 0);
        backRefuses(checks, 5, 2);
    }

    static void promise18_theSmallestAndTheLargestKindAreRefused(Checks checks) {
        backRefuses(checks, Given.SMALLEST, 0);
        backRefuses(checks, Given.LARGEST, 0);
    }

    static void promise18_cutBy0IsRefused(Checks checks) {
        backRefuses(checks, 0, 0);
    }

    static void promise18_cutBy16IsRefused(Checks checks) {
        backRefuses(checks, 0, 16);
    }

    static void promise18_cutByANegativeNumberIsRefused(Checks checks) {
        backRefuses(checks, 0, -1);
        backRefuses(checks, 0, Given.SMALLEST);
    }

    static void promise18_cutByFarTooManyIsRefused(Checks checks) {
        backRefuses(checks, 0, Given.LARGEST);
    }

    static void promise18_riffleOutWithAnyNumberBut0IsRefused(Checks checks) {
        backRefusesNumbersBut0(checks, 1);
    }

    static void promise18_riffleInWithAnyNumberBut0IsRefused(Checks checks) {
        backRefusesNumbersBut0(checks, 2);
    }

    static void promise18_dealWithAnyNumberBut0IsRefused(Checks checks) {
        backRefusesNumbersBut0(checks, 4);
    }

    static void promise18_foldBy1IsRefused(Checks checks) {
        backRefuses(checks, 3, 1);
    }

    static void promise18_foldBy17IsRefused(Checks checks) {
        backRefuses(checks, 3, 17);
    }

    static void promise18_foldBy0AndByANegativeNumberIsRefused(Checks checks) {
        backRefuses(checks, 3, 0);
        backRefuses(checks, 3, -1);
        backRefuses(checks, 3, Given.SMALLEST);
    }

    static void promise18_foldByFarTooManyIsRefused(Checks checks) {
        backRefuses(checks, 3, Given.LARGEST);
    }

    static void promise18_ofAllKindsAndNumbersNearbyJustTheWaysAreTold(Checks checks) {
        for (int kind = -2; kind <= 6; kind++) {
            for (int number = -17; number <= 33; number++) {
                if (Given.isWay(kind, number)) {
                    checks.due("back(" + kind + ", " + number + ")", timesByHand(kind, number),
                        new CardFans().back(kind, number));
                } else {
                    backRefuses(checks, kind, number);
                }
            }
        }
    }

    static void promise18_cutBy1TheLeastIsBackAfter16(Checks checks) {
        checks.due("back(0, 1)", 16, new CardFans().back(0, 1));
    }

    static void promise18_cutBy15TheMostIsBackAfter16(Checks checks) {
        checks.due("back(0, 15)", 16, new CardFans().back(0, 15));
    }

    static void promise18_cutBy8IsBackAfter2TheFewestOfAnyWay(Checks checks) {
        CardFans x = new CardFans();
        checks.due("back(0, 8)", 2, x.back(0, 8));
    }

    static void promise18_cutByANumberThatSharesADivisorIsBackSooner(Checks checks) {
        CardFans x = new CardFans();
        checks.due("back(0, 12)", 4, x.back(0, 12));
        checks.due("back(0, 6)", 8, x.back(0, 6));
    }

    static void promise18_eachFoldIsBackAfter2(Checks checks) {
        CardFans x = new CardFans();
        for (int n = 2; n <= 16; n++) {
            checks.due("back(3, " + n + ")", 2, x.back(3, n));
        }
    }

    static void promise18_riffleOutIsBackAfter4(Checks checks) {
        checks.due("back(1, 0)", 4, new CardFans().back(1, 0));
    }

    static void promise18_riffleInIsBackAfter8(Checks checks) {
        checks.due("back(2, 0)", 8, new CardFans().back(2, 0));
    }

    static void promise18_dealIsBackAfter15(Checks checks) {
        checks.due("back(4, 0)", 15, new CardFans().back(4, 0));
    }

    static void promise18_isTillAllCardsAreWhereTheyWereInAnyOrderOfThePack(Checks checks) {
        CardFans x = Given.used();
        checks.due("back(4, 0)", 15, x.back(4, 0));
        checks.due("back(4, 0) again", 15, x.back(4, 0));
        checks.due("back(0, 5)", 16, x.back(0, 5));
    }

    static void promise18_nothingIsChanged(Checks checks) {
        CardFans x = Given.used();
        long before = x.digest();
        x.back(2, 0);
        checks.due("digest()", before, x.digest());
    }

    // ---- promise 19: bring

    static void promise19_cardMinus1IsRefused(Checks checks) {
        bringRefuses(checks, -1, 0);
    }

    static void promise19_card16IsRefused(Checks checks) {
        bringRefuses(checks, 16, 0);
    }

    static void promise19_theSmallestAndTheLargestCardAreRefused(Checks checks) {
        bringRefuses(checks, Given.SMALLEST, 0);
        bringRefuses(checks, Given.LARGEST, 0);
    }

    static void promise19_placeMinus1IsRefused(Checks checks) {
        bringRefuses(checks, 0, -1);
    }

    static void promise19_place16IsRefused(Checks checks) {
        bringRefuses(checks, 0, 16);
    }

    static void promise19_theSmallestAndTheLargestPlaceAreRefused(Checks checks) {
        bringRefuses(checks, 15, Given.SMALLEST);
        bringRefuses(checks, 15, Given.LARGEST);
    }

    static void promise19_aWrongCardWithAWrongPlaceIsRefused(Checks checks) {
        bringRefuses(checks, -1, -1);
        bringRefuses(checks, 16, 16);
    }

    static void promise19_whereTheCardIsItIsZero(Checks checks) {
        CardFans x = Given.used();
        for (int place = 0; place < 16; place++) {
            checks.due("bring to " + place, 0, x.bring(x.card(place), place));
        }
    }

    static void promise19_oneWayOfEachKindIsOne(Checks checks) {
        CardFans x = new CardFans();
        checks.due("bring(2, 4): riffle out", 1, x.bring(2, 4));
        checks.due("bring(0, 1): riffle in", 1, x.bring(0, 1));
        checks.due("bring(1, 15): deal", 1, x.bring(1, 15));
        checks.due("bring(0, 7): fold by 8", 1, x.bring(0, 7));
    }

    static void promise19_aCutIsNotAmongThem(Checks checks) {
        CardFans x = new CardFans();
        checks.due("bring(0, 15)", 2, x.bring(0, 15));
        checks.due("bring(1, 0)", 3, x.bring(1, 0));
    }

    static void promise19_aFoldByAnotherNumberThan8IsNotAmongThem(Checks checks) {
        CardFans x = new CardFans();
        checks.due("bring(0, 2): not the fold by 3", 2, x.bring(0, 2));
        checks.due("bring(0, 6): not the fold by 7", 2, x.bring(0, 6));
        checks.due("bring(0, 8): not the fold by 9", 3, x.bring(0, 8));
        checks.due("bring(0, 15): not the fold by 16", 2, x.bring(0, 15));
    }

    static void promise19_theFoldBy8KeepsThePlace8(Checks checks) {
        checks.due("bring(8, 9)", 4, new CardFans().bring(8, 9));
    }

    static void promise19_theFarthestIsFour(Checks checks) {
        CardFans x = new CardFans();
        checks.due("bring(0, 10)", 4, x.bring(0, 10));
        checks.due("bring(15, 5)", 4, x.bring(15, 5));
        checks.due("bring(3, 5)", 4, x.bring(3, 5));
    }

    static void promise19_noneIsMinus1AsEachPlaceIsReached(Checks checks) {
        CardFans x = new CardFans();
        for (int card = 0; card < 16; card++) {
            for (int place = 0; place < 16; place++) {
                int ways = x.bring(card, place);
                checks.that("bring(" + card + ", " + place + ") is 0 to 4: " + ways, ways >= 0 && ways <= 4);
            }
        }
    }

    static void promise19_isCountedFromWhereTheCardIs(Checks checks) {
        CardFans x = new CardFans();
        x.go(3, 16, false);
        checks.due("bring(15, 0)", 0, x.bring(15, 0));
        checks.due("bring(15, 10)", 4, x.bring(15, 10));
        checks.due("bring(0, 14)", 1, x.bring(0, 14));
    }

    static void promise19_nothingIsChanged(Checks checks) {
        CardFans x = Given.used();
        long before = x.digest();
        x.bring(3, 0);
        x.bring(0, 15);
        checks.due("digest()", before, x.digest());
    }

    // ---- promise 20: riffles

    static void promise20_cardMinus1IsRefused(Checks checks) {
        rifflesRefuses(checks, -1, 0);
    }

    static void promise20_card16IsRefused(Checks checks) {
        rifflesRefuses(checks, 16, 0);
    }

    static void promise20_theSmallestAndTheLargestCardAreRefused(Checks checks) {
        rifflesRefuses(checks, Given.SMALLEST, 0);
        rifflesRefuses(checks, Given.LARGEST, 0);
    }

    static void promise20_placeMinus1IsRefused(Checks checks) {
        rifflesRefuses(checks, 0, -1);
    }

    static void promise20_place16IsRefused(Checks checks) {
        rifflesRefuses(checks, 0, 16);
    }

    static void promise20_theSmallestAndTheLargestPlaceAreRefused(Checks checks) {
        rifflesRefuses(checks, 15, Given.SMALLEST);
        rifflesRefuses(checks, 15, Given.LARGEST);
    }

    static void promise20_aWrongCardWithAWrongPlaceIsRefused(Checks checks) {
        rifflesRefuses(checks, -1, -1);
        rifflesRefuses(checks, 16, 16);
    }

    static void promise20_whereTheCardIsItIsOne(Checks checks) {
        CardFans x = Given.used();
        for (int place = 0; place < 16; place++) {
            checks.due("riffles to " + place, 1, x.riffles(x.card(place), place));
        }
    }

    static void promise20_oneRiffleOutIsTheNumber2(Checks checks) {
        checks.due("riffles(3, 6)", 0b10, new CardFans().riffles(3, 6));
    }

    static void promise20_oneRiffleInIsTheNumber3(Checks checks) {
        checks.due("riffles(3, 7)", 0b11, new CardFans().riffles(3, 7));
    }

    static void promise20_theTopIsBroughtDownByItsBits(Checks checks) {
        CardFans x = new CardFans();
        checks.due("riffles(0, 2): in, out", 0b110, x.riffles(0, 2));
        checks.due("riffles(0, 5): in, out, in", 0b1101, x.riffles(0, 5));
        checks.due("riffles(0, 15): in, in, in, in", 0b11111, x.riffles(0, 15));
    }

    static void promise20_theFirstRiffleIsTheBitBelowTheHighest(Checks checks) {
        CardFans x = new CardFans();
        checks.due("riffles(4, 0): out, in", 0b101, x.riffles(4, 0));
        checks.due("riffles(4, 3): in, out", 0b110, x.riffles(4, 3));
    }

    static void promise20_outsThatComeFirstAreKeptByTheHighestBit(Checks checks) {
        checks.due("riffles(1, 0): out, out, out, in", 0b10001, new CardFans().riffles(1, 0));
    }

    static void promise20_fourOutsAreNeverNeededAsTheyLeaveAllCards(Checks checks) {
        CardFans x = new CardFans();
        for (int card = 0; card < 16; card++) {
            for (int place = 0; place < 16; place++) {
                int told = x.riffles(card, place);
                checks.that("riffles(" + card + ", " + place + ") is not 16: " + told, told != 0b10000);
            }
        }
    }

    static void promise20_fewerRifflesGoFirst(Checks checks) {
        // Four riffles, out or in, bring each card to each place, too.
        CardFans x = new CardFans();
        checks.due("riffles(0, 1): not out, out, out, in", 0b11, x.riffles(0, 1));
        checks.due("riffles(8, 0): not four", 0b11, x.riffles(8, 0));
        checks.due("riffles(0, 7): not four", 0b1111, x.riffles(0, 7));
    }

    static void promise20_noneIsMinus1AsFourRifflesReachEachPlace(Checks checks) {
        CardFans x = new CardFans();
        for (int card = 0; card < 16; card++) {
            for (int place = 0; place < 16; place++) {
                int told = x.riffles(card, place);
                checks.that("riffles(" + card + ", " + place + ") is 1 to 31: " + told, told >= 1 && told <= 31);
            }
        }
    }

    static void promise20_isToldFromWhereTheCardIs(Checks checks) {
        CardFans x = new CardFans();
        x.go(0, 8, false);
        checks.due("riffles(8, 1)", 0b11, x.riffles(8, 1));
        checks.due("riffles(0, 1)", 0b10, x.riffles(0, 1));
    }

    static void promise20_nothingIsChanged(Checks checks) {
        CardFans x = Given.used();
        long before = x.digest();
        x.riffles(3, 0);
        x.riffles(0, 15);
        checks.due("digest()", before, x.digest());
    }

    // ---- promise 21: mean

    static void promise21_withoutWatchersItIsZero(Checks checks) {
        checks.dueMean("mean()", 0.0, new CardFans().mean());
    }

    static void promise21_withoutWatchersPlayersDoNotCount(Checks checks) {
        checks.dueMean("mean()", 0.0, Given.seated(3, 4).mean());
    }

    static void promise21_atFirstItIs16(Checks checks) {
        checks.dueMean("mean() of one", 16.0, Given.watched(true).mean());
        checks.dueMean("mean() of four", 16.0, Given.watched(true, false, true, false).mean());
    }

    static void promise21_withAllKnownItIs1(Checks checks) {
        checks.dueMean("mean()", 1.0, Given.known(true).mean());
    }

    static void promise21_isNoWholeNumber(Checks checks) {
        checks.dueMean("mean()", (1 + 15 * 15) / 16.0, Given.glimpsed(4).mean());
    }

    static void promise21_isByAllWatchers(Checks checks) {
        CardFans x = Given.known(true);
        x.watch(false);
        checks.dueMean("mean() of two", 8.5, x.mean());
        x.watch(false);
        checks.dueMean("mean() of three", 11.0, x.mean());
        x.watch(true);
        checks.dueMean("mean() of four", 12.25, x.mean());
    }

    static void promise21_ofThreeWatchersMayHaveNoEnd(Checks checks) {
        CardFans x = Given.glimpsed(4);
        x.watch(true);
        x.watch(true);
        checks.dueMean("mean()", (226 + 256 + 256) / 48.0, x.mean());
        x.glimpse(1, 0);
        checks.dueMean("mean()", (226 + 226 + 256) / 48.0, x.mean());
        x.glimpse(1, 1);
        checks.dueMean("mean()", (226 + 198 + 256) / 48.0, x.mean());
    }

    static void promise21_thinkingAnewMakesItLarger(Checks checks) {
        CardFans x = Given.known(true);
        x.go(0, 1, false);
        x.glimpse(0, 0);
        checks.dueMean("mean()", (1 + 15 * 15) / 16.0, x.mean());
    }

    static void promise21_nothingIsChanged(Checks checks) {
        CardFans x = Given.used();
        long before = x.digest();
        x.mean();
        checks.due("digest()", before, x.digest());
    }

    // ---- promise 22: digest

    static void promise22_ofANewObjectIsOfItsCountsAndCardsAlone(Checks checks) {
        checks.due("digest()", digestOf(0, 0, 0, 0, 0, 0, 16, 0, 1, 2, 3, 4, 5, 6, 7, 8, 9, 10, 11, 12, 13, 14, 15),
            new CardFans().digest());
    }

    static void promise22_ofPlayersWhoTookNoneHasMinus1(Checks checks) {
        checks.due("digest()",
            digestOf(0, 0, 0, 2, 0, 0, 16, 0, 1, 2, 3, 4, 5, 6, 7, 8, 9, 10, 11, 12, 13, 14, 15, 0, -1, 15, -1),
            Given.seated(0, 15).digest());
    }

    static void promise22_wrapsAroundAs64Bits(Checks checks) {
        CardFans x = new CardFans();
        java.math.BigInteger d = java.math.BigInteger.valueOf(929);
        int[] numbers = {0, 0, 0, 0, 0, 0, 16, 0, 1, 2, 3, 4, 5, 6, 7, 8, 9, 10, 11, 12, 13, 14, 15};
        for (int number : numbers) {
            d = d.multiply(java.math.BigInteger.valueOf(31)).add(java.math.BigInteger.valueOf(number));
        }
        checks.that("the number is larger than 64 bits", d.bitLength() > 64);
        checks.due("digest()", d.longValue(), x.digest());
    }

    static void promise22_ofAWatcherHasTheSixNumbersThenTheSixteenSets(Checks checks) {
        checks.due("digest()",
            digestOf(0, 0, 1, 0, 0, 0, 16, 0, 1, 2, 3, 4, 5, 6, 7, 8, 9, 10, 11, 12, 13, 14, 15,
                1, 16, 1, 1, 0, 1,
                1, 65534, 65534, 65534, 65534, 65534, 65534, 65534,
                65534, 65534, 65534, 65534, 65534, 65534, 65534, 65534),
            Given.glimpsed(0).digest());
    }

    static void promise22_ofFourWatchersAndFourPlayersHasThemAllInOrder(Checks checks) {
        CardFans x = Given.watched(true, false, false, true);
        int[] habits = {15, 0, 7, 8};
        for (int habit : habits) {
            x.sit(habit);
        }
        x.go(2, 0, true);
        x.glimpse(3, 15);
        x.glimpse(1, 0);
        x.falseCut(15);
        x.go(0, 1, false);
        x.glimpse(3, 14);
        x.fan(15);
        x.take(3);
        x.take(0);
        checks.due("digest()", digestByCalls(x, habits), x.digest());
        checks.due("thought anew", 1, x.watcher(3, 4));
    }

    static void promise22_nothingIsChanged(Checks checks) {
        CardFans x = Given.used();
        long before = x.digest();
        checks.due("digest() again", before, x.digest());
        checks.due("digest() by the calls", digestByCalls(x, 5), x.digest());
    }

    private static long digestOf(int... numbers) {
        long d = 929;
        for (int number : numbers) {
            d = d * 31 + number;
        }
        return d;
    }

    private static long digestByCalls(CardFans x, int... habits) {
        long d = 929;
        for (int what = 0; what < 7; what++) {
            d = d * 31 + x.count(what);
        }
        for (int place = 0; place < 16; place++) {
            d = d * 31 + x.card(place);
        }
        for (int w = 0; w < x.count(2); w++) {
            for (int what = 0; what < 6; what++) {
                d = d * 31 + x.watcher(w, what);
            }
            for (int place = 0; place < 16; place++) {
                d = d * 31 + x.thinks(w, place);
            }
        }
        for (int player = 0; player < habits.length; player++) {
            d = (d * 31 + habits[player]) * 31 + x.took(player);
        }
        return d;
    }

    private static void countRefuses(Checks checks, int what) {
        CardFans x = Given.used();
        checks.refused("count(" + what + ")", Given.INDEX, x, () -> x.count(what));
    }

    private static void backRefuses(Checks checks, int kind, int number) {
        CardFans x = Given.used();
        checks.refused("back(" + kind + ", " + number + ")", Given.ARGUMENT, x, () -> x.back(kind, number));
    }

    private static int timesByHand(int kind, int number) {
        CardFans x = new CardFans();
        int times = 0;
        do {
            x.go(kind, number, false);
            times++;
        } while (x.count(6) < 16 && times < 500);
        return times;
    }

    private static void backRefusesNumbersBut0(Checks checks, int kind) {
        for (int number : new int[] {-1, 1, 2, 8, 15, 16, 17, Given.SMALLEST, Given.LARGEST}) {
            backRefuses(checks, kind, number);
        }
    }

    private static void bringRefuses(Checks checks, int card, int place) {
        CardFans x = Given.used();
        checks.refused("bring(" + card + ", " + place + ")", Given.INDEX, x, () -> x.bring(card, place));
    }

    private static void rifflesRefuses(Checks checks, int card, int place) {
        CardFans x = Given.used();
        checks.refused("riffles(" + card + ", " + place + ")", Given.INDEX, x, () -> x.riffles(card, place));
    }
}
