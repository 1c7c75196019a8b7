/**
 * Each argument of each call: the least and the greatest value that is allowed, the first one
 * below and above them that is not, and the farthest ones of an int.
 */
public final class BoundsTest {
    private static final int UNKNOWN = Stores.UNKNOWN;
    private static final int BAD_VALUE = Stores.BAD_VALUE;
    private static final int NOT_POSSIBLE = Stores.NOT_POSSIBLE;
    private static final int NONE = Stores.NONE;
    private static final int BITS_OF_20 = Stores.bits(20.0f);

    private interface Call {
        int on(ShelfStages store, int value);
    }

    public static void main(String[] args) {
        settings();
        shares();
        percents();
        happenings();
        daysOfLife();
        lastDay();
        questions();
        whats();
        ranges();
        Check.end();
    }

    /** 12 goods with lists, 39 batches, 29 orders: of all but the goods one more has room. */
    private static ShelfStages wide() {
        ShelfStages store = Stores.withGoods(12);
        for (int good = 0; good < 12; good++) {
            store.addSubstitute(good, (good + 1) % 12, 0);
        }
        store.addSubstitute(11, 1, 1);
        store.addSubstitute(11, 2, 2);
        for (int batch = 0; batch < 39; batch++) {
            store.bring(batch % 12, 999, 10);
        }
        for (int order = 0; order < 29; order++) {
            store.order(order % 12, 1, 0, false);
        }
        return store;
    }

    private static void bounds(String argument, int least, int most, int error, Call call) {
        bounds(argument, least, most, error, error, call);
    }

    private static void bounds(String argument, int least, int most, int below, int above, Call call) {
        Check check = new Check(argument);
        for (int value : new int[] {least, most}) {
            int answer = call.on(wide(), value);
            check.due(value + " is no error, answer " + answer, answer < 0 ? 1 : 0, 0);
        }
        for (int value : new int[] {least - 1, Integer.MIN_VALUE}) {
            check.due("" + value, call.on(wide(), value), below);
        }
        for (int value : new int[] {most + 1, Integer.MAX_VALUE}) {
            check.due("" + value, call.on(wide(), value), above);
        }
    }

    private static void settings() {
        bounds("addGood, price", 1, 9999, BAD_VALUE, (store, price) -> new ShelfStages().addGood(price, 1));
        bounds("addGood, life", 1, 60, BAD_VALUE, (store, life) -> new ShelfStages().addGood(1, life));
        bounds("setPrice, good", 0, 11, UNKNOWN, (store, good) -> store.setPrice(good, 7));
        bounds("setPrice, price", 1, 9999, BAD_VALUE, (store, price) -> store.setPrice(0, price));
        bounds("addSubstitute, good", 0, 11, UNKNOWN, (store, good) -> store.addSubstitute(good, 6, 0));
        bounds("addSubstitute, substitute", 0, 11, UNKNOWN, (store, good) -> store.addSubstitute(6, good, 0));
        bounds("addSubstitute, place", 0, 3, BAD_VALUE, (store, place) -> store.addSubstitute(11, 6, place));
        bounds("addSubstitute, first place", 0, 0, BAD_VALUE, (store, place) -> {
            store.removeSubstitute(0, 0);
            return store.addSubstitute(0, 6, place);
        });
        bounds("removeSubstitute, good", 0, 11, UNKNOWN, (store, good) -> store.removeSubstitute(good, 0));
        bounds("removeSubstitute, place", 0, 2, BAD_VALUE, NONE, (store, place) -> store.removeSubstitute(11, place));
        bounds("set, what", 0, 2, BAD_VALUE, (store, what) -> store.set(what, what == 0 ? 2 : 3));
        bounds("set, stage of donation", 1, 4, BAD_VALUE, (store, value) -> setAnew(store, 1, value, 2));
        bounds("set, rule", 0, 2, BAD_VALUE, (store, value) -> setAnew(store, 0, value, 1));
        bounds("set, most a day", 0, 999, BAD_VALUE, (store, value) -> setAnew(store, 2, value, 1));
    }

    private static int setAnew(ShelfStages store, int what, int value, int other) {
        store.set(what, other);
        return store.set(what, value);
    }

    private static void shares() {
        bounds("setStage, stage", 1, 3, UNKNOWN, (store, stage) ->
            store.setStage(stage, stage == 1 ? 49 : stage == 2 ? 24 : 9, BITS_OF_20));
        bounds("share of 1", 26, 99, BAD_VALUE, (store, share) -> store.setStage(1, share, BITS_OF_20));
        bounds("share of 2", 11, 49, BAD_VALUE, (store, share) -> store.setStage(2, share, BITS_OF_20));
        bounds("share of 3", 0, 24, BAD_VALUE, (store, share) -> store.setStage(3, share, BITS_OF_20));
        bounds("share of 1 behind another 2", 41, 99, BAD_VALUE, (store, share) -> {
            store.setStage(2, 40, BITS_OF_20);
            return store.setStage(1, share, BITS_OF_20);
        });
        bounds("share of 2 between two others", 1, 98, BAD_VALUE, (store, share) -> {
            store.setStage(1, 99, BITS_OF_20);
            store.setStage(3, 0, BITS_OF_20);
            return store.setStage(2, share, BITS_OF_20);
        });
        bounds("share of 3 behind the least 2", 0, 0, BAD_VALUE, (store, share) -> {
            store.setStage(3, 0, BITS_OF_20);
            store.setStage(2, 1, BITS_OF_20);
            return store.setStage(3, share, 0);
        });
    }

    /** The bits of floats from 0.0f on grow with them; below them stand those with a minus. */
    private static void percents() {
        for (int stage = 1; stage <= 3; stage++) {
            int each = stage;
            bounds("markdown of " + stage, 0, Stores.bits(100.0f), BAD_VALUE, (store, bits) ->
                store.setStage(each, store.stage(each, 0), bits));
        }
        bounds("rebate", 0, Stores.bits(30.0f), BAD_VALUE, (store, bits) -> {
            store.setRebate(Stores.bits(1.0f));
            return store.setRebate(bits);
        });
    }

    private static void happenings() {
        bounds("bring, good", 0, 11, UNKNOWN, (store, good) -> store.bring(good, 1, 1));
        bounds("bring, units", 1, 999, BAD_VALUE, (store, units) -> store.bring(0, units, 1));
        bounds("bring, left", 1, 10, BAD_VALUE, (store, left) -> store.bring(0, 1, left));
        bounds("readDelivery, good", 0, 11, UNKNOWN, (store, good) -> read(store, good, 1, 1));
        bounds("readDelivery, units", 1, 999, BAD_VALUE, (store, units) -> read(store, 0, units, 1));
        bounds("readDelivery, left", 1, 10, BAD_VALUE, (store, left) -> read(store, 0, 1, left));
        bounds("order, good", 0, 11, UNKNOWN, (store, good) -> store.order(good, 1, 0, true));
        bounds("order, units", 1, 999, BAD_VALUE, (store, units) -> store.order(0, units, 0, true));
        bounds("order, least", 0, 60, BAD_VALUE, (store, least) -> store.order(0, 1, least, true));
        bounds("breakUnits, batch", 0, 38, UNKNOWN, (store, batch) -> store.breakUnits(batch, 1));
        bounds("breakUnits, units", 1, 999, BAD_VALUE, (store, units) -> store.breakUnits(37, units));
        bounds("recall, good", 0, 11, UNKNOWN, ShelfStages::recall);
        bounds("pass, days", 1, 60, BAD_VALUE, ShelfStages::pass);
    }

    /** A delivery has no minus and at most three digits: what it can't say is asked as its neighbour. */
    private static int read(ShelfStages store, int good, int units, int left) {
        if (good < 0 || good > 999) {
            return UNKNOWN;
        }
        if (units < 0 || units > 999 || left < 0 || left > 999) {
            return BAD_VALUE;
        }
        Stores.withText(store, good + "x" + units + "/" + left);
        return store.readDelivery();
    }

    /** The days left are bound by the life of the batch's own good. */
    private static void daysOfLife() {
        for (int life : new int[] {1, 2, 59, 60}) {
            bounds("bring, left of " + life, 1, life, BAD_VALUE, (store, left) -> {
                ShelfStages other = Stores.withGoods(1);
                other.addGood(1, life);
                return other.bring(1, 1, left);
            });
            bounds("readDelivery, left of " + life, 1, life, BAD_VALUE, (store, left) -> {
                ShelfStages other = Stores.withGoods(1);
                other.addGood(1, life);
                return read(other, 1, 1, left);
            });
        }
    }

    private static void lastDay() {
        Check check = new Check("the last day");
        for (int days = 1; days <= 60; days++) {
            int before = 9999 - days;
            ShelfStages store = Stores.withDay(new ShelfStages(), before + 1);
            check.due(days + " days to 10000", store.pass(days), NOT_POSSIBLE);
            check.due("day still", store.count(0), before + 1);
            store = Stores.withDay(new ShelfStages(), before);
            check.due(days + " days to 9999", store.pass(days), 0);
            check.due("day then", store.count(0), 9999);
        }
    }

    private static void questions() {
        bounds("good, good", 0, 11, UNKNOWN, (store, good) -> store.good(good, 0));
        bounds("substitute, good", 0, 11, UNKNOWN, (store, good) -> store.substitute(good, 0));
        bounds("substitute, place", 0, 2, BAD_VALUE, NONE, (store, place) -> store.substitute(11, place));
        bounds("batch, batch", 0, 38, UNKNOWN, (store, batch) -> store.batch(batch, 0));
        bounds("stage, stage", 0, 3, UNKNOWN, (store, stage) -> store.stage(stage, 0));
        bounds("orderTold, order", 0, 28, UNKNOWN, (store, order) -> store.orderTold(order, 0));
        bounds("taken, order", 0, 28, UNKNOWN, (store, order) -> store.taken(order, 0, 0));
        bounds("taken, place", 0, 0, BAD_VALUE, NONE, (store, place) -> store.taken(0, place, 0));
        bounds("wouldGet, good", 0, 11, UNKNOWN, (store, good) -> store.wouldGet(good, 1, 0, true, 0));
        bounds("wouldGet, units", 1, 999, BAD_VALUE, (store, units) -> store.wouldGet(0, units, 0, true, 0));
        bounds("wouldGet, least", 0, 60, BAD_VALUE, (store, least) -> store.wouldGet(0, 1, least, true, 0));
        bounds("wouldExpire, batch", 0, 38, UNKNOWN, (store, batch) -> store.wouldExpire(batch, 1));
        bounds("wouldExpire, days", 1, 60, BAD_VALUE, (store, days) -> store.wouldExpire(0, days));
        bounds("stageIn, batch", 0, 38, UNKNOWN, (store, batch) -> store.stageIn(batch, 1));
        bounds("stageIn, stage", 1, 3, UNKNOWN, (store, stage) -> store.stageIn(0, stage));
        bounds("event, back", 0, 9, BAD_VALUE, NONE, (store, back) -> store.event(back, 0));
        bounds("takes, sort", 0, 1, BAD_VALUE, (store, sort) -> store.takes(sort, true, 0));
        bounds("takes, good", 0, 11, UNKNOWN, (store, good) -> store.takes(0, false, good));
        bounds("takes, batch", 0, 38, UNKNOWN, (store, batch) -> store.takes(0, true, batch));
    }

    private static void whats() {
        bounds("good, what", 0, 6, BAD_VALUE, (store, what) -> store.good(11, what));
        bounds("batch, what", 0, 11, BAD_VALUE, (store, what) -> store.batch(38, what));
        bounds("stage, what", 0, 2, BAD_VALUE, (store, what) -> store.stage(3, what));
        bounds("orderTold, what", 0, 8, BAD_VALUE, (store, what) -> store.orderTold(28, what));
        bounds("taken, what", 0, 1, BAD_VALUE, (store, what) -> store.taken(28, 0, what));
        bounds("wouldGet, what", 0, 3, BAD_VALUE, (store, what) -> store.wouldGet(11, 1, 0, true, what));
        bounds("event, what", 0, 3, BAD_VALUE, (store, what) -> store.event(9, what));
        bounds("count, what", 0, 18, BAD_VALUE, ShelfStages::count);
    }

    /** What is told in floats has a NaN for what is not there. */
    private static void ranges() {
        bounds("unitPrice, batch", 0, 38, UNKNOWN, (store, batch) -> whole(store.unitPrice(batch)));
        bounds("markdown, stage", 0, 3, UNKNOWN, (store, stage) -> whole(store.markdown(stage)));
    }

    private static int whole(float told) {
        return told != told ? UNKNOWN : (int) told;
    }
}
