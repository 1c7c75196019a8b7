/** Promises 20 to 33: what is told. */
public final class ToldTest {
    private static final int UNKNOWN = Stores.UNKNOWN;
    private static final int BAD_VALUE = Stores.BAD_VALUE;
    private static final int NONE = Stores.NONE;
    private static final float NAN = Float.NaN;

    public static void main(String[] args) {
        promise20Good();
        promise21Substitute();
        promise22Batch();
        promise23UnitPrice();
        promise24Markdown();
        promise25Stage();
        promise26OrderTold();
        promise27Taken();
        promise28WouldGet();
        promise29WouldExpire();
        promise30StageIn();
        promise31Event();
        promise32Takes();
        promise33Count();
        Check.end();
    }

    /**
     * Two goods, four batches, orders of which one is filled in part and one refused, and each
     * way that a unit can go.
     */
    private static ShelfStages busy() {
        ShelfStages store = new ShelfStages();
        store.addGood(100, 10);
        store.addGood(60, 20);
        store.addSubstitute(0, 1, 0);
        store.bring(0, 50, 5);
        store.bring(0, 40, 2);
        store.bring(1, 30, 20);
        store.bring(1, 20, 1);
        store.set(1, 3);
        store.set(2, 7);
        store.breakUnits(0, 3);
        store.pass(1);
        store.order(0, 100, 0, true);
        store.order(1, 9, 0, false);
        store.order(0, 10, 3, false);
        store.bring(0, 11, 10);
        store.recall(0);
        return store;
    }

    private static void dueRow(Check check, String name, int[] got, int... want) {
        for (int what = 0; what < want.length; what++) {
            check.due(name + ", what " + what, got[what], want[what]);
        }
    }

    private static void promise20Good() {
        Check check = new Check("promise 20");
        ShelfStages store = busy();
        int[][] told = new int[2][7];
        for (int good = 0; good < 2; good++) {
            for (int what = 0; what < 7; what++) {
                told[good][what] = store.good(good, what);
            }
        }
        dueRow(check, "good 0", told[0], 100, 10, 1, 0, 3, 80, 100);
        dueRow(check, "good 1", told[1], 60, 20, 0, 1, 2, 29, 9);
        for (int wild : Stores.WILD) {
            check.due("good " + wild, store.good(wild, -1), UNKNOWN);
            check.due("what " + wild, store.good(0, wild), BAD_VALUE);
        }
        check.due("good 2", store.good(2, 0), UNKNOWN);
        check.due("what 7", store.good(0, 7), BAD_VALUE);
    }

    private static void promise21Substitute() {
        Check check = new Check("promise 21");
        ShelfStages store = Stores.withGoods(4);
        store.addSubstitute(3, 1, 0);
        store.addSubstitute(3, 0, 0);
        check.due("first", store.substitute(3, 0), 0);
        check.due("second", store.substitute(3, 1), 1);
        check.due("third", store.substitute(3, 2), NONE);
        check.due("of an empty list", store.substitute(2, 0), NONE);
        check.due("good 4", store.substitute(4, 0), UNKNOWN);
        for (int wild : Stores.WILD) {
            check.due("good " + wild, store.substitute(wild, -1), UNKNOWN);
            check.due("place " + wild, store.substitute(3, wild), wild < 0 ? BAD_VALUE : NONE);
        }
    }

    private static void promise22Batch() {
        Check check = new Check("promise 22");
        ShelfStages store = busy();
        int[][] told = new int[5][12];
        for (int batch = 0; batch < 5; batch++) {
            for (int what = 0; what < 12; what++) {
                told[batch][what] = store.batch(batch, what);
            }
        }
        // Of the stage 3 on the day 1: the batch 1 alone; 7 units of it are given away.
        dueRow(check, "batch 0", told[0], 0, 50, 4, 0, 47, 0, 3, 0, 3, 0, 1, 3760);
        dueRow(check, "batch 1", told[1], 0, 40, 1, 0, 33, 7, 0, 0, 0, 0, 3, 990);
        dueRow(check, "batch 2", told[2], 1, 30, 19, 1, 29, 0, 0, 0, 0, 0, 0, 1740);
        dueRow(check, "batch 3", told[3], 1, 20, 0, 0, 0, 0, 20, 20, 0, 0, 3, 0);
        dueRow(check, "batch 4", told[4], 0, 11, 10, 0, 0, 0, 11, 0, 0, 11, 0, 0);
        for (int wild : Stores.WILD) {
            check.due("batch " + wild, store.batch(wild, -1), UNKNOWN);
            check.due("what " + wild, store.batch(0, wild), BAD_VALUE);
        }
        check.due("batch 5", store.batch(5, 0), UNKNOWN);
        check.due("what 12", store.batch(0, 12), BAD_VALUE);
    }

    private static void promise23UnitPrice() {
        Check check = new Check("promise 23");
        ShelfStages store = Stores.withGood(999, 60);
        store.setStage(1, 50, Stores.bits(33.3f));
        store.bring(0, 1, 31);
        store.bring(0, 1, 30);
        store.bring(0, 1, 15);
        store.bring(0, 1, 6);
        check.dueFloat("stage 0", store.unitPrice(0), 999.0f);
        check.dueFloat("stage 1", store.unitPrice(1), 999.0f * (1.0f - 33.3f / 100.0f));
        check.dueFloat("stage 2", store.unitPrice(2), 999.0f * (1.0f - 40.0f / 100.0f));
        check.dueFloat("stage 3", store.unitPrice(3), 999.0f * (1.0f - 70.0f / 100.0f));
        check.dueFloat("no batch", store.unitPrice(4), NAN);
        for (int wild : Stores.WILD) {
            check.dueFloat("batch " + wild, store.unitPrice(wild), NAN);
        }
        store.setPrice(0, 7);
        check.dueFloat("another price", store.unitPrice(0), 7.0f);
        store.pass(1);
        check.dueFloat("another stage", store.unitPrice(0), 7.0f * (1.0f - 33.3f / 100.0f));
        store.setStage(3, 10, Stores.bits(100.0f));
        check.dueFloat("for nothing", store.unitPrice(3), 0.0f);
    }

    private static void promise24Markdown() {
        Check check = new Check("promise 24");
        ShelfStages store = new ShelfStages();
        store.setStage(2, 25, Stores.bits(41.7f));
        float[] told = {0.0f, 20.0f, 41.7f, 70.0f};
        for (int stage = 0; stage < 4; stage++) {
            check.dueFloat("stage " + stage, store.markdown(stage), told[stage]);
        }
        check.dueFloat("stage 4", store.markdown(4), NAN);
        for (int wild : Stores.WILD) {
            check.dueFloat("stage " + wild, store.markdown(wild), NAN);
        }
    }

    private static void promise25Stage() {
        Check check = new Check("promise 25");
        ShelfStages store = Stores.withBatches(1, 10, 2, 6, 4, 5, 8, 3, 16, 2, 32, 1, 64, 1, 128, 5);
        store.breakUnits(7, 128);
        int[] shares = {100, 50, 25, 10};
        int[] batches = {2, 2, 1, 2};
        int[] units = {3, 12, 16, 96};
        for (int stage = 0; stage < 4; stage++) {
            check.due("share of " + stage, store.stage(stage, 0), shares[stage]);
            check.due("batches of " + stage, store.stage(stage, 1), batches[stage]);
            check.due("units of " + stage, store.stage(stage, 2), units[stage]);
        }
        for (int wild : Stores.WILD) {
            check.due("stage " + wild, store.stage(wild, -1), UNKNOWN);
            check.due("what " + wild, store.stage(0, wild), BAD_VALUE);
        }
        check.due("stage 4", store.stage(4, 0), UNKNOWN);
        check.due("what 3", store.stage(0, 3), BAD_VALUE);
    }

    private static void promise26OrderTold() {
        Check check = new Check("promise 26");
        ShelfStages store = busy();
        int[][] told = new int[3][9];
        for (int order = 0; order < 3; order++) {
            for (int what = 0; what < 9; what++) {
                told[order][what] = store.orderTold(order, what);
            }
        }
        dueRow(check, "order 0", told[0], 0, 100, 100, 20, 0, 1, 3, 990 + 3760 + 1200, 1);
        dueRow(check, "order 1", told[1], 1, 9, 9, 0, 0, 0, 1, 540, 1);
        dueRow(check, "order 2", told[2], 0, 10, 0, 0, 3, 0, 0, 0, 1);
        for (int wild : Stores.WILD) {
            check.due("order " + wild, store.orderTold(wild, -1), UNKNOWN);
            check.due("what " + wild, store.orderTold(0, wild), BAD_VALUE);
        }
        check.due("order 3", store.orderTold(3, 0), UNKNOWN);
        check.due("what 9", store.orderTold(0, 9), BAD_VALUE);
    }

    private static void promise27Taken() {
        Check check = new Check("promise 27");
        ShelfStages store = busy();
        int[] batches = {1, 0, 2};
        int[] units = {33, 47, 20};
        for (int place = 0; place < 3; place++) {
            check.due("batch at " + place, store.taken(0, place, 0), batches[place]);
            check.due("units at " + place, store.taken(0, place, 1), units[place]);
        }
        check.due("place 3", store.taken(0, 3, 0), NONE);
        check.due("of the next order", store.taken(1, 0, 1), 9);
        check.due("of a refused one", store.taken(2, 0, 0), NONE);
        check.due("order 3", store.taken(3, -1, 0), UNKNOWN);
        check.due("what 2", store.taken(0, 5, 2), BAD_VALUE);
        for (int wild : Stores.WILD) {
            check.due("order " + wild, store.taken(wild, 0, 0), UNKNOWN);
            check.due("place " + wild, store.taken(0, wild, 0), wild < 0 ? BAD_VALUE : NONE);
            check.due("what " + wild, store.taken(0, 0, wild), BAD_VALUE);
        }
    }

    private static void promise28WouldGet() {
        Check check = new Check("promise 28");
        ShelfStages store = Stores.withBatches(5, 5, 6, 9);
        store.addGood(50, 10);
        store.addSubstitute(0, 1, 0);
        store.bring(1, 9, 10);
        store.setRebate(Stores.bits(10.0f));
        int[] due = {15, 4, 3, 1200 - 120};
        for (int what = 0; what < 4; what++) {
            check.due("what " + what, store.wouldGet(0, 15, 0, true, what), due[what]);
        }
        check.due("without substitutes", store.wouldGet(0, 15, 0, false, 0), 11);
        check.due("with least", store.wouldGet(0, 15, 6, true, 2), 2);
        check.due("nothing", store.wouldGet(0, 15, 11, true, 3), 0);
        check.due("orders", store.count(3), 0);
        check.due("shelf", store.count(4), 20);
        for (int wild : Stores.WILD) {
            check.due("good " + wild, store.wouldGet(wild, 0, 0, true, 0), UNKNOWN);
            check.due("units " + wild, store.wouldGet(0, wild, 0, true, 0), BAD_VALUE);
            check.due("least " + wild, store.wouldGet(0, 1, wild, true, 0), BAD_VALUE);
            check.due("what " + wild, store.wouldGet(0, 1, 0, true, wild), BAD_VALUE);
        }
        check.due("good 2", store.wouldGet(2, 1, 0, true, 0), UNKNOWN);
        check.due("units 0", store.wouldGet(0, 0, 0, true, 0), BAD_VALUE);
        check.due("units 1000", store.wouldGet(0, 1000, 0, true, 0), BAD_VALUE);
        check.due("least 61", store.wouldGet(0, 1, 61, true, 0), BAD_VALUE);
        check.due("what 4", store.wouldGet(0, 1, 0, true, 4), BAD_VALUE);
        for (int order = 0; order < 30; order++) {
            store.order(0, 1, 60, false);
        }
        check.due("after 30 orders", store.wouldGet(0, 999, 0, true, 0), 20);
    }

    private static void promise29WouldExpire() {
        Check check = new Check("promise 29");
        ShelfStages store = Stores.withBatches(30, 3, 30, 4, 30, 10);
        check.due("the next day", store.wouldExpire(0, 1), 0);
        check.due("before", store.wouldExpire(0, 2), 0);
        check.due("then", store.wouldExpire(0, 3), 30);
        check.due("long after", store.wouldExpire(2, 60), 30);
        store.set(1, 2);
        store.set(2, 10);
        // On the days 1 and 2 the batch 0 is given away first; the batch 1 has the rest.
        check.due("of 0", store.wouldExpire(0, 60), 10);
        check.due("of 1", store.wouldExpire(1, 60), 20);
        check.due("of 2", store.wouldExpire(2, 60), 10);
        store.pass(3);
        check.due("what expired before does not count", store.wouldExpire(0, 60), 0);
        check.due("shelf", store.batch(1, 3), 20);
        check.due("day", store.count(0), 3);
        for (int wild : Stores.WILD) {
            check.due("batch " + wild, store.wouldExpire(wild, 0), UNKNOWN);
            check.due("days " + wild, store.wouldExpire(0, wild), BAD_VALUE);
        }
        check.due("batch 3", store.wouldExpire(3, 1), UNKNOWN);
        check.due("days 0", store.wouldExpire(0, 0), BAD_VALUE);
        check.due("days 61", store.wouldExpire(0, 61), BAD_VALUE);
        ShelfStages late = Stores.withGood(1, 60);
        for (int call = 0; call < 166; call++) {
            late.pass(60);
        }
        late.pass(39);
        late.bring(0, 5, 60);
        check.due("beyond the last day", late.wouldExpire(0, 60), 5);
    }

    private static void promise30StageIn() {
        Check check = new Check("promise 30");
        ShelfStages store = Stores.withBatches(9, 10, 9, 2, 9, 9);
        check.due("0 to 1", store.stageIn(0, 1), 5);
        check.due("0 to 2", store.stageIn(0, 2), 8);
        check.due("0 to 3", store.stageIn(0, 3), 9);
        check.due("1 to 1, beyond it", store.stageIn(1, 1), 0);
        check.due("1 to 2, in it", store.stageIn(1, 2), 0);
        check.due("1 to 3", store.stageIn(1, 3), 1);
        store.set(1, 1);
        check.due("whatever is given", store.stageIn(0, 3), 9);
        store.setStage(3, 9, 0);
        check.due("expires then", store.stageIn(0, 3), NONE);
        check.due("stage 2 still", store.stageIn(0, 2), 8);
        store.breakUnits(1, 9);
        check.due("no units", store.stageIn(1, 1), NONE);
        check.due("day", store.count(0), 0);
        for (int wild : Stores.WILD) {
            check.due("batch " + wild, store.stageIn(wild, 1), UNKNOWN);
            check.due("stage " + wild, store.stageIn(0, wild), UNKNOWN);
        }
        check.due("batch 3", store.stageIn(3, 1), UNKNOWN);
        check.due("stage 0", store.stageIn(0, 0), UNKNOWN);
        check.due("stage 4", store.stageIn(0, 4), UNKNOWN);
        check.due("stage 0 of no units", store.stageIn(1, 0), UNKNOWN);
    }

    private static void promise31Event() {
        Check check = new Check("promise 31");
        ShelfStages store = Stores.withBatches(50, 10);
        store.pass(2);
        store.order(0, 3, 0, true);
        store.breakUnits(0, 4);
        int[][] due = {{3, 0, 4, 2}, {1, 0, 3, 2}, {0, 0, 50, 0}};
        for (int back = 0; back < 3; back++) {
            for (int what = 0; what < 4; what++) {
                check.due("event(" + back + ", " + what + ")", store.event(back, what), due[back][what]);
            }
        }
        check.due("event(3, 0)", store.event(3, 0), NONE);
        Stores.withText(store, "0x6");
        store.readDelivery();
        check.due("day of a delivery", store.event(0, 3), 2);
        store.pass(1);
        store.bring(0, 7, 7);
        check.due("day of a batch", store.event(0, 3), 3);
        store.recall(0);
        check.due("day of a recall", store.event(0, 3), 3);
        check.due("event(11, 4)", store.event(11, 4), BAD_VALUE);
        for (int wild : Stores.WILD) {
            check.due("back " + wild, store.event(wild, 0), wild < 0 ? BAD_VALUE : NONE);
            check.due("what " + wild, store.event(0, wild), BAD_VALUE);
        }
        for (int units = 1; units <= 25; units++) {
            store.bring(0, units, 1);
            check.due("latest", store.event(0, 2), units);
        }
        check.due("9 back", store.event(9, 2), 16);
        check.due("10 back", store.event(10, 2), NONE);
        store.undo();
        check.due("latest after undo", store.event(0, 2), 24);
        check.due("9 back after undo", store.event(9, 2), 15);
    }

    private static void promise32Takes() {
        Check check = new Check("promise 32");
        ShelfStages store = Stores.withGoods(3);
        store.bring(0, 1, 1);
        check.due("goods, a good", store.takes(0, false, 2), 1);
        check.due("goods, a batch", store.takes(0, true, 0), 0);
        check.due("batches, a good", store.takes(1, false, 2), 0);
        check.due("batches, a batch", store.takes(1, true, 0), 1);
        check.due("no good", store.takes(0, false, 3), UNKNOWN);
        check.due("no batch", store.takes(0, true, 1), UNKNOWN);
        check.due("sort 2", store.takes(2, false, 0), BAD_VALUE);
        for (int wild : Stores.WILD) {
            check.due("sort " + wild, store.takes(wild, true, 0), BAD_VALUE);
            check.due("good " + wild, store.takes(wild, false, wild), UNKNOWN);
            check.due("batch " + wild, store.takes(1, true, wild), UNKNOWN);
        }
    }

    private static void promise33Count() {
        Check check = new Check("promise 33");
        ShelfStages store = busy();
        store.setRebate(Stores.bits(1.0f));
        store.order(1, 5, 0, true);
        store.type('x');
        int[] due = {1, 2, 5, 4, 0, 110, 7, 34, 20, 3, 11, 14, 1, 5950 + 540 + 60, 0, 3, 7, 4, 1};
        for (int what = 0; what < due.length; what++) {
            check.due("count(" + what + ")", store.count(what), due[what]);
        }
        check.due("count(19)", store.count(19), BAD_VALUE);
        for (int wild : Stores.WILD) {
            check.due("count(" + wild + ")", store.count(wild), BAD_VALUE);
        }
    }
}
