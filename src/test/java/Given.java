/** Objects that many tests begin with. */
final class Given {
    static final Class<IllegalArgumentException> ARGUMENT = IllegalArgumentException.class;
    static final Class<IllegalStateException> STATE = IllegalStateException.class;
    static final Class<IndexOutOfBoundsException> INDEX = IndexOutOfBoundsException.class;
    static final int SMALLEST = Integer.MIN_VALUE;
    static final int LARGEST = Integer.MAX_VALUE;
    /** The set of all cards. */
    static final int ALL = 65535;

    private Given() {
    }

    /** The pack in no order, two watchers who think otherwise and a player who took a card. */
    static CardFans used() {
        CardFans x = new CardFans();
        x.watch(true);
        x.watch(false);
        x.go(2, 0, true);
        x.glimpse(0, 4);
        x.glimpse(1, 9);
        x.go(3, 11, false);
        x.sit(5);
        x.take(0);
        x.fan(6);
        return x;
    }

    static CardFans watched(boolean... sharp) {
        CardFans x = new CardFans();
        for (boolean each : sharp) {
            x.watch(each);
        }
        return x;
    }

    static CardFans seated(int... habits) {
        CardFans x = new CardFans();
        for (int each : habits) {
            x.sit(each);
        }
        return x;
    }

    /** One watcher who has glimpsed these places of a pack in its order. */
    static CardFans glimpsed(int... places) {
        CardFans x = watched(true);
        for (int place : places) {
            x.glimpse(0, place);
        }
        return x;
    }

    /** One watcher who knows where each card is. */
    static CardFans known(boolean sharp) {
        CardFans x = watched(sharp);
        for (int place = 0; place < 16; place++) {
            x.glimpse(0, place);
        }
        return x;
    }

    /** As the document tells the ways: 1 to 15 for the kind 0, 2 to 16 for the kind 3, 0 for 1, 2 and 4. */
    static boolean isWay(int kind, int number) {
        if (kind == 0) {
            return number >= 1 && number <= 15;
        }
        if (kind == 3) {
            return number >= 2 && number <= 16;
        }
        return (kind == 1 || kind == 2 || kind == 4) && number == 0;
    }
}
