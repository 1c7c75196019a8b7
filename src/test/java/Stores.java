/** Stores that several tests begin with. */
final class Stores {
    static final int UNKNOWN = -1;
    static final int BAD_VALUE = -2;
    static final int FULL = -3;
    static final int NOT_POSSIBLE = -4;
    static final int NONE = -5;

    /** Arguments that are out of every range. */
    static final int[] WILD = {Integer.MIN_VALUE, Integer.MIN_VALUE + 1, -1, 10000, 1 << 28,
        Integer.MAX_VALUE - 1, Integer.MAX_VALUE};

    private Stores() {
    }

    static int bits(float value) {
        return Float.floatToRawIntBits(value);
    }

    static ShelfStages withGood(int price, int life) {
        ShelfStages store = new ShelfStages();
        store.addGood(price, life);
        return store;
    }

    static ShelfStages withGoods(int goods) {
        ShelfStages store = new ShelfStages();
        for (int good = 0; good < goods; good++) {
            store.addGood(100 + good, 10);
        }
        return store;
    }

    /** A good of 100 cents and 10 days, and a batch of it for each pair of units and days left. */
    static ShelfStages withBatches(int... unitsAndLeft) {
        ShelfStages store = withGood(100, 10);
        for (int at = 0; at + 1 < unitsAndLeft.length; at += 2) {
            store.bring(0, unitsAndLeft[at], unitsAndLeft[at + 1]);
        }
        return store;
    }

    static ShelfStages withText(ShelfStages store, String text) {
        store.clearText();
        for (int at = 0; at < text.length(); at++) {
            store.type(text.charAt(at));
        }
        return store;
    }

    static ShelfStages withDay(ShelfStages store, int day) {
        for (int left = day - store.count(0); left > 0; left = day - store.count(0)) {
            store.pass(Math.min(left, 60));
        }
        return store;
    }

    /** Three goods, one of them with substitutes, five batches, three orders, every kind of waste. */
    static ShelfStages busy() {
        ShelfStages store = new ShelfStages();
        store.addGood(100, 10);
        store.addGood(150, 20);
        store.addGood(60, 5);
        store.addSubstitute(0, 1, 0);
        store.addSubstitute(0, 2, 1);
        store.bring(0, 30, 10);
        store.bring(0, 20, 3);
        store.bring(1, 40, 20);
        store.bring(2, 10, 1);
        store.bring(0, 25, 4);
        store.keep();
        store.setRebate(bits(7.5f));
        store.set(1, 2);
        store.set(2, 5);
        store.pass(1);
        store.order(0, 40, 2, true);
        store.order(2, 5, 0, true);
        store.order(0, 45, 0, true);
        store.breakUnits(2, 4);
        return withText(store, "2x7/5,0x9");
    }

    /**
     * As much of everything as a store can have, on the last day: goods, a list of substitutes,
     * batches, orders, events, characters (of a delivery without fault) and states.
     */
    static ShelfStages full() {
        ShelfStages store = withDay(withGoods(12), 9999);
        for (int place = 0; place < 4; place++) {
            store.addSubstitute(0, place + 1, place);
        }
        store.keep();
        for (int batch = 0; batch < 40; batch++) {
            store.bring(batch % 12, 5 + batch, 1 + batch % 10);
        }
        for (int order = 0; order < 30; order++) {
            store.order(order % 12, 4, 0, order % 2 == 0);
        }
        return withText(store, "0x1,".repeat(14) + "0x10");
    }

    /** All that calls tell of a store, with the states in its history and the text's length. */
    static String told(ShelfStages store) {
        return toldOfState(store) + "states " + store.count(17) + ", text " + store.count(18);
    }

    /** All that calls tell of what undo and restore bring back. */
    static String toldOfState(ShelfStages store) {
        StringBuilder told = new StringBuilder();
        for (int what = 0; what <= 16; what++) {
            told.append("count ").append(store.count(what)).append(' ');
        }
        for (int good = 0; good < store.count(1); good++) {
            tellGood(store, good, told.append("\ngood ").append(good));
        }
        for (int batch = 0; batch < store.count(2); batch++) {
            tellBatch(store, batch, told.append("\nbatch ").append(batch));
        }
        for (int order = 0; order < store.count(3); order++) {
            tellOrder(store, order, told.append("\norder ").append(order));
        }
        for (int stage = 0; stage < 4; stage++) {
            told.append("\nstage ").append(store.stage(stage, 0)).append(' ')
                .append(store.stage(stage, 1)).append(' ').append(store.stage(stage, 2))
                .append(' ').append(store.markdown(stage));
        }
        for (int back = 0; back <= 10; back++) {
            told.append("\nevent");
            for (int what = 0; what <= 3; what++) {
                told.append(' ').append(store.event(back, what));
            }
        }
        return told.append('\n').toString();
    }

    private static void tellGood(ShelfStages store, int good, StringBuilder told) {
        for (int what = 0; what <= 6; what++) {
            told.append(' ').append(store.good(good, what));
        }
        for (int place = 0; place <= 4; place++) {
            told.append(' ').append(store.substitute(good, place));
        }
        for (int what = 0; what <= 3; what++) {
            told.append(' ').append(store.wouldGet(good, 999, 0, true, what));
        }
    }

    private static void tellBatch(ShelfStages store, int batch, StringBuilder told) {
        for (int what = 0; what <= 11; what++) {
            told.append(' ').append(store.batch(batch, what));
        }
        for (int stage = 1; stage <= 3; stage++) {
            told.append(' ').append(store.stageIn(batch, stage));
        }
        told.append(' ').append(store.unitPrice(batch)).append(' ').append(store.wouldExpire(batch, 60));
    }

    private static void tellOrder(ShelfStages store, int order, StringBuilder told) {
        for (int what = 0; what <= 8; what++) {
            told.append(' ').append(store.orderTold(order, what));
        }
        for (int place = 0; place <= store.orderTold(order, 6); place++) {
            told.append(' ').append(store.taken(order, place, 0)).append('x')
                .append(store.taken(order, place, 1));
        }
    }
}
