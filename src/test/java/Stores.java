/** Stores that several tests begin with. */
final class Stores {
    static final int UNKNOWN = -1;
    static final int BAD_VALUE = -2;
    static final int FULL = -3;
    static final int NOT_POSSIBLE = -4;
    static final int NONE = -5;

    /** Arguments that are out of every range. */
    static final int[] WILD = {Integer.MIN_VALUE, Integer.MIN_VALUE + 1, -1, 10000, 1 << 28,
        Integer.MAX_VALUE - 1, Integer.MAX_VALUE};

    private Stores() {
    }

    static int bits(float value) {
        return Float.floatToRawIntBits(value);
    }

    static ShelfStages withGood(int price, int life) {
        ShelfStages store = new ShelfStages();
        store.addGood(price, life);
        return store;
    }

    static ShelfStages withGoods(int goods) {
        ShelfStages store = new ShelfStages();
        for (int good = 0; good < goods; good++) {
            store.addGood(100 + good, 10);
        }
        return store;
    }

    /** A good of 100 cents and 10 days, and a batch of it for each pair of units and days left. */
    static ShelfStages withBatches(int... unitsAndLeft) {
        ShelfStages store = withGood(100, 10);
        for (int at = 0; at + 1 < unitsAndLeft.length; at += 2) {
            store.bring(0, unitsAndLeft[at], unitsAndLeft[at + 1]);
        }
        return store;
    }

    static ShelfStages withText(ShelfStages store, String text) {
        store.clearText();
        for (int at = 0; at < text.length(); at++) {
            store.type(text.charAt(at));
        }
        return store;
    }
}
