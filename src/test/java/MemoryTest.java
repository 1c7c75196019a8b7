/** Promises 15 to 19: the text, the history and the snapshot. */
public final class MemoryTest {
    private static final int FULL = Stores.FULL;
    private static final int NONE = Stores.NONE;

    public static void main(String[] args) {
        promise15Type();
        promise16ClearText();
        promise17Undo();
        promise17WhatIsRecorded();
        promise17WholeState();
        promise17ManyTimes();
        promise18Keep();
        promise19Restore();
        promise19OverOtherActs();
        promise19Takes();
        promise19NumbersAnew();
        Check.end();
    }

    private static void promise15Type() {
        Check check = new Check("promise 15");
        ShelfStages store = Stores.withGoods(1);
        for (int length = 1; length <= 60; length++) {
            char character = length % 2 == 0 ? (char) 0xFFFF : (char) 0;
            check.due("type", store.type(character), length);
        }
        check.due("61st", store.type('0'), FULL);
        check.due("length", store.count(18), 60);
        check.due("no act", store.count(17), 1);
        check.due("undo", store.undo(), 0);
        check.due("length still", store.count(18), 60);
    }

    private static void promise16ClearText() {
        Check check = new Check("promise 16");
        ShelfStages store = Stores.withGoods(1);
        check.due("empty", store.clearText(), 0);
        Stores.withText(store, "0x10");
        check.due("no act", store.count(17), 1);
        check.due("4 characters", store.clearText(), 4);
        check.due("empty again", store.clearText(), 0);
        check.due("length", store.count(18), 0);
        check.due("read", store.readDelivery(), -100);
        Stores.withText(store, "0x2");
        check.due("read anew", store.readDelivery(), 1);
        check.due("units", store.batch(0, 1), 2);
    }

    private static void promise17Undo() {
        Check check = new Check("promise 17");
        ShelfStages store = new ShelfStages();
        check.due("empty", store.undo(), NONE);
        for (int price = 1; price <= 6; price++) {
            store.addGood(price, 1);
            check.due("states", store.count(17), Math.min(price, 4));
        }
        for (int left = 3; left >= 0; left--) {
            check.due("undo", store.undo(), left);
            check.due("goods", store.count(1), left + 2);
        }
        check.due("no more", store.undo(), NONE);
        check.due("goods", store.count(1), 2);
        check.due("an act", store.addGood(9, 9), 2);
        check.due("undone", store.undo(), 0);
        check.due("price of 1", store.good(1, 0), 2);
    }

    private static void promise17WhatIsRecorded() {
        Check check = new Check("promise 17");
        ShelfStages store = Stores.withBatches(10, 10);
        store.undo();
        store.undo();
        store.addGood(100, 10);
        store.bring(0, 10, 10);
        store.undo();
        store.bring(0, 10, 10);
        int states = store.count(17);
        check.due("states", states, 2);
        store.keep();
        store.type('0');
        store.clearText();
        store.wouldGet(0, 5, 0, true, 0);
        store.wouldExpire(0, 60);
        store.stageIn(0, 1);
        store.setPrice(0, 100);
        store.order(0, 0, 0, true);
        store.recall(4);
        check.due("no acts, errors and NONE", store.count(17), states);
        check.due("units after what would be", store.batch(0, 3), 10);
        check.due("day after what would be", store.count(0), 0);
        store.order(0, 1, 60, true);
        check.due("a refused order is an act", store.count(17), 3);
        store.restore();
        check.due("restore is an act", store.count(17), 4);
        store.undo();
        check.due("undone restore", store.count(3), 1);
    }

    private static void promise17WholeState() {
        Check check = new Check("promise 17");
        ShelfStages store = busy();
        String before = told(store);
        store.addSubstitute(1, 0, 0);
        store.undo();
        check.dueText("after addSubstitute", told(store), before);
        store.setStage(2, 30, Stores.bits(41.5f));
        store.undo();
        store.setRebate(Stores.bits(20.0f));
        store.undo();
        store.set(0, 2);
        store.undo();
        check.dueText("after settings", told(store), before);
        store.order(0, 50, 0, true);
        store.undo();
        store.bring(1, 4, 4);
        store.undo();
        store.pass(30);
        store.undo();
        store.recall(0);
        store.undo();
        check.dueText("after what happens", told(store), before);
        store.keep();
        store.pass(30);
        store.order(1, 5, 0, true);
        store.setStage(1, 60, 0);
        store.restore();
        check.dueText("after restore", told(store), before);
    }

    private static void promise17ManyTimes() {
        Check check = new Check("promise 17");
        ShelfStages store = Stores.withBatches(10, 10, 10, 10);
        for (int time = 0; time < 80; time++) {
            store.order(0, 15, 0, true);
            check.due("second batch", store.taken(0, 1, 0), 1);
            check.due("its units", store.taken(0, 1, 1), 5);
            store.undo();
        }
        check.due("shelf", store.count(4), 20);
    }

    private static ShelfStages busy() {
        ShelfStages store = Stores.withBatches(10, 10, 20, 3, 30, 6);
        store.addGood(70, 20);
        store.addSubstitute(0, 1, 0);
        store.bring(1, 15, 20);
        store.set(1, 2);
        store.pass(1);
        store.order(0, 12, 0, true);
        store.breakUnits(3, 2);
        store.order(1, 5, 0, false);
        return store;
    }

    /** All that is told of a store, but for the states in its history. */
    private static String told(ShelfStages store) {
        StringBuilder told = new StringBuilder();
        for (int what = 0; what <= 16; what++) {
            told.append(store.count(what)).append(' ');
        }
        for (int number = 0; number < 5; number++) {
            for (int what = 0; what <= 11; what++) {
                told.append(store.good(number, what)).append(' ').append(store.batch(number, what))
                    .append(' ').append(store.orderTold(number, what)).append(' ')
                    .append(store.stage(number, what)).append(' ').append(store.event(what, number))
                    .append(' ').append(store.taken(number, what, 0)).append(' ');
            }
            told.append(store.markdown(number)).append(' ').append(store.unitPrice(number))
                .append(' ').append(store.substitute(number, 0)).append(';');
        }
        return told.append(store.wouldGet(0, 99, 0, true, 3)).toString();
    }

    private static void promise18Keep() {
        Check check = new Check("promise 18");
        ShelfStages store = Stores.withBatches(10, 10);
        check.due("day 0", store.keep(), 0);
        store.pass(7);
        check.due("day 7", store.keep(), 7);
        check.due("no act", store.count(17), 3);
        store.pass(2);
        check.due("the later one", store.restore(), 7);
        store.undo();
        store.undo();
        store.undo();
        check.due("undone", store.count(0), 0);
        check.due("the snapshot is not", store.restore(), 7);
        check.due("left", store.batch(0, 2), 3);
    }

    private static void promise19Restore() {
        Check check = new Check("promise 19");
        ShelfStages store = Stores.withBatches(10, 10);
        check.due("none", store.restore(), NONE);
        check.due("states", store.count(17), 2);
        store.keep();
        Stores.withText(store, "0x1");
        store.pass(3);
        check.due("restored", store.restore(), 0);
        check.due("day", store.count(0), 0);
        check.due("the text is no part", store.count(18), 3);
        check.due("states", store.count(17), 4);
        store.order(0, 4, 0, true);
        check.due("restored again", store.restore(), 0);
        check.due("shelf", store.batch(0, 3), 10);
        check.due("even if nothing changes", store.restore(), 0);
        check.due("undo", store.undo(), 3);
        check.due("undo", store.undo(), 2);
        check.due("shelf before", store.batch(0, 3), 6);
    }

    /** The acts behind the snapshot take the numbers of its last batch and order once more. */
    private static void promise19OverOtherActs() {
        Check check = new Check("promise 19");
        ShelfStages store = new ShelfStages();
        store.addGood(100, 10);
        store.addGood(70, 20);
        store.addGood(50, 15);
        store.bring(0, 20, 10);
        store.bring(1, 30, 20);
        store.order(0, 9, 0, true);
        store.addSubstitute(0, 1, 0);
        store.bring(0, 1, 1);
        store.set(0, 1);
        store.order(0, 12, 2, true);
        store.keep();
        String kept = told(store);
        for (int left = 3; left >= 0; left--) {
            check.due("undo", store.undo(), left);
        }
        store.addSubstitute(0, 2, 0);
        store.bring(2, 77, 13);
        store.breakUnits(2, 1);
        store.order(2, 75, 1, false);
        store.pass(9);
        store.order(1, 3, 0, false);
        check.due("another order 1", store.orderTold(1, 0), 2);
        check.due("another batch 2", store.batch(2, 0), 2);
        store.restore();
        check.dueText("the snapshot", told(store), kept);
    }

    private static void promise19Takes() {
        Check check = new Check("promise 19");
        ShelfStages store = Stores.withBatches(3, 10, 5, 10, 7, 10);
        store.order(0, 4, 0, false);
        store.order(0, 5, 0, false);
        store.keep();
        store.undo();
        store.undo();
        store.order(0, 1, 0, false);
        store.order(0, 2, 0, false);
        store.restore();
        check.due("batch of order 1", store.taken(1, 0, 0), 1);
        check.due("units of order 1", store.taken(1, 0, 1), 4);
        check.due("second batch of order 1", store.taken(1, 1, 0), 2);
        ShelfStages other = Stores.withBatches(3, 10, 5, 10, 7, 10);
        other.order(0, 15, 0, false);
        other.keep();
        other.undo();
        other.breakUnits(0, 3);
        other.order(0, 15, 0, false);
        check.due("second batch without the first", other.taken(0, 1, 0), 2);
        other.restore();
        int[] units = {3, 5, 7};
        for (int place = 0; place < 3; place++) {
            check.due("batch of the snapshot", other.taken(0, place, 0), place);
            check.due("units of the snapshot", other.taken(0, place, 1), units[place]);
        }
    }

    /** Numbers that were in use behind the snapshot are given anew, to goods, batches and orders as new. */
    private static void promise19NumbersAnew() {
        Check check = new Check("promise 19");
        ShelfStages store = new ShelfStages();
        store.keep();
        useNumbers(store);
        int[][] used = {{5, 2, 0, 1, 12}, {5, 2, 12, 1, 0}, {5, 2, 12, 1, 0}};
        int[] whats = {4, 5, 7, 8, 9};
        for (int batch = 0; batch < 3; batch++) {
            for (int at = 0; at < whats.length; at++) {
                check.due("used batch " + batch, store.batch(batch, whats[at]), used[batch][at]);
            }
        }
        store.restore();
        check.dueText("the empty store", Stores.toldOfState(store), Stores.toldOfState(new ShelfStages()));
        begin(store);
        ShelfStages other = new ShelfStages();
        begin(other);
        check.dueText("begun anew", Stores.toldOfState(store), Stores.toldOfState(other));
    }

    /** Units of the batches 0 to 2 go each way that they can, and the order 0 takes from two batches. */
    private static void useNumbers(ShelfStages store) {
        store.addGood(50, 10);
        store.addGood(60, 10);
        store.addSubstitute(0, 1, 0);
        store.addSubstitute(1, 0, 0);
        store.bring(0, 20, 4);
        store.bring(1, 20, 3);
        store.bring(1, 20, 2);
        store.bring(0, 3, 1);
        store.set(1, 3);
        store.set(2, 2);
        for (int batch = 0; batch < 3; batch++) {
            store.breakUnits(batch, 1);
        }
        store.order(0, 8, 0, true);
        store.order(1, 5, 3, false);
        store.order(1, 5, 0, false);
        store.pass(3);
        store.recall(0);
    }

    private static void begin(ShelfStages store) {
        store.addGood(100, 10);
        store.addGood(90, 20);
        store.bring(0, 9, 10);
        store.bring(1, 9, 20);
        store.bring(1, 5, 5);
        store.order(1, 3, 0, false);
        store.order(0, 99, 60, true);
    }
}
