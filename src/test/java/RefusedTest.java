/**
 * Calls that return an error or NONE, on an empty, a busy and a full store: what they answer, which
 * error is told where several apply, and that they change nothing that other calls tell, neither
 * now nor after undo and restore.
 */
public final class RefusedTest {
    private static final int UNKNOWN = Stores.UNKNOWN;
    private static final int BAD_VALUE = Stores.BAD_VALUE;
    private static final int FULL = Stores.FULL;
    private static final int NOT_POSSIBLE = Stores.NOT_POSSIBLE;
    private static final int NONE = Stores.NONE;
    private static final int MINUS_ZERO = Integer.MIN_VALUE;
    private static final int NAN = 0x7FC00000;

    private interface Call {
        int on(ShelfStages store);
    }

    private interface Maker {
        ShelfStages make();
    }

    private final Check check;
    private final Maker maker;

    private RefusedTest(String where, Maker maker) {
        this.check = new Check("refused, " + where);
        this.maker = maker;
    }

    public static void main(String[] args) {
        RefusedTest empty = new RefusedTest("empty store", ShelfStages::new);
        empty.actsOnNothing();
        empty.questionsAboutNothing();
        RefusedTest busy = new RefusedTest("busy store", Stores::busy);
        busy.settingsOutOfRange();
        busy.happeningsOutOfRange();
        busy.questionsOutOfRange();
        busy.whatIsSoAlready();
        busy.deliveries();
        RefusedTest full = new RefusedTest("full store", Stores::full);
        full.noMoreRoom();
        full.errorsAheadOfFull();
        new RefusedTest("full store with a long delivery", RefusedTest::fullButForTheLast).deliveryOfTwo();
        Check.end();
    }

    /** The call is made on one of two equal stores; the other one is what it is compared with. */
    private void refused(String call, int due, Call made) {
        ShelfStages store = maker.make();
        ShelfStages untouched = maker.make();
        check.due(call, made.on(store), due);
        check.dueText("all after " + call, Stores.told(store), Stores.told(untouched));
        for (int undone = 0; undone < 5; undone++) {
            check.due("undo after " + call, store.undo(), untouched.undo());
            check.dueText("all after " + call + " and undo", Stores.told(store), Stores.told(untouched));
        }
        check.due("restore after " + call, store.restore(), untouched.restore());
        check.dueText("all after " + call + " and restore", Stores.told(store), Stores.told(untouched));
    }

    private void actsOnNothing() {
        refused("setPrice", UNKNOWN, store -> store.setPrice(0, 1));
        refused("addSubstitute", UNKNOWN, store -> store.addSubstitute(0, 1, 0));
        refused("addSubstitute of the same", UNKNOWN, store -> store.addSubstitute(0, 0, 0));
        refused("removeSubstitute", UNKNOWN, store -> store.removeSubstitute(0, 0));
        refused("bring", UNKNOWN, store -> store.bring(0, 1, 1));
        refused("readDelivery", -100, ShelfStages::readDelivery);
        refused("order", UNKNOWN, store -> store.order(0, 1, 0, true));
        refused("breakUnits", UNKNOWN, store -> store.breakUnits(0, 1));
        refused("recall", UNKNOWN, store -> store.recall(0));
        refused("undo", NONE, ShelfStages::undo);
        refused("restore", NONE, ShelfStages::restore);
    }

    private void questionsAboutNothing() {
        refused("good", UNKNOWN, store -> store.good(0, 0));
        refused("substitute", UNKNOWN, store -> store.substitute(0, 0));
        refused("batch", UNKNOWN, store -> store.batch(0, 0));
        refused("orderTold", UNKNOWN, store -> store.orderTold(0, 0));
        refused("taken", UNKNOWN, store -> store.taken(0, 0, 0));
        refused("wouldGet", UNKNOWN, store -> store.wouldGet(0, 1, 0, true, 0));
        refused("wouldExpire", UNKNOWN, store -> store.wouldExpire(0, 1));
        refused("stageIn", UNKNOWN, store -> store.stageIn(0, 1));
        refused("event", NONE, store -> store.event(0, 0));
        refused("takes a good", UNKNOWN, store -> store.takes(0, false, 0));
        refused("takes a batch", UNKNOWN, store -> store.takes(1, true, 0));
        refused("unitPrice", Float.floatToIntBits(Float.NaN),
            store -> Float.floatToIntBits(store.unitPrice(0)));
    }

    private void settingsOutOfRange() {
        refused("addGood", BAD_VALUE, store -> store.addGood(0, 1));
        refused("addGood", BAD_VALUE, store -> store.addGood(1, 61));
        refused("setPrice, both bad", UNKNOWN, store -> store.setPrice(3, 0));
        refused("setPrice", BAD_VALUE, store -> store.setPrice(2, 10000));
        refused("addSubstitute, no good", UNKNOWN, store -> store.addSubstitute(3, 0, -1));
        refused("addSubstitute, no substitute", UNKNOWN, store -> store.addSubstitute(0, 3, -1));
        refused("addSubstitute, the same in no list", UNKNOWN, store -> store.addSubstitute(3, 3, 0));
        refused("addSubstitute, the same", BAD_VALUE, store -> store.addSubstitute(0, 0, 0));
        refused("addSubstitute, place", BAD_VALUE, store -> store.addSubstitute(1, 0, 1));
        refused("addSubstitute, in the list and place", BAD_VALUE, store -> store.addSubstitute(0, 1, 3));
        refused("addSubstitute, in the list", NOT_POSSIBLE, store -> store.addSubstitute(0, 2, 0));
        refused("removeSubstitute, both bad", UNKNOWN, store -> store.removeSubstitute(3, -1));
        refused("removeSubstitute", BAD_VALUE, store -> store.removeSubstitute(1, -1));
        refused("removeSubstitute, not so long", NONE, store -> store.removeSubstitute(0, 2));
        refused("setStage 0, all bad", UNKNOWN, store -> store.setStage(0, 100, NAN));
        refused("setStage 4, all bad", UNKNOWN, store -> store.setStage(4, 0, NAN));
        refused("setStage, share", BAD_VALUE, store -> store.setStage(1, 100, 0));
        refused("setStage, NaN", BAD_VALUE, store -> store.setStage(1, 60, NAN));
        refused("setStage, -0.0f", BAD_VALUE, store -> store.setStage(1, 60, MINUS_ZERO));
        refused("set, no such number", BAD_VALUE, store -> store.set(3, 1));
        refused("set", BAD_VALUE, store -> store.set(1, 5));
        refused("setRebate", BAD_VALUE, store -> store.setRebate(Stores.bits(Math.nextUp(30.0f))));
        refused("setRebate, -0.0f", BAD_VALUE, store -> store.setRebate(MINUS_ZERO));
        refused("setRebate, NaN", BAD_VALUE, store -> store.setRebate(NAN));
    }

    private void happeningsOutOfRange() {
        refused("bring, all bad", UNKNOWN, store -> store.bring(3, 0, 0));
        refused("bring, units", BAD_VALUE, store -> store.bring(0, 1000, 1));
        refused("bring, left", BAD_VALUE, store -> store.bring(2, 1, 6));
        refused("order, all bad", UNKNOWN, store -> store.order(3, 0, -1, true));
        refused("order, units", BAD_VALUE, store -> store.order(0, 0, 0, true));
        refused("order, least", BAD_VALUE, store -> store.order(0, 1, 61, true));
        refused("breakUnits, both bad", UNKNOWN, store -> store.breakUnits(5, 0));
        refused("breakUnits, units", BAD_VALUE, store -> store.breakUnits(0, 1000));
        refused("breakUnits, too many", NOT_POSSIBLE, store -> store.breakUnits(2, 22));
        refused("breakUnits, of none", NOT_POSSIBLE, store -> store.breakUnits(0, 1));
        refused("recall", UNKNOWN, store -> store.recall(3));
        refused("recall, nothing there", NONE, store -> store.recall(0));
        refused("pass, no day", BAD_VALUE, store -> store.pass(0));
        refused("pass, too many days", BAD_VALUE, store -> store.pass(61));
    }

    private void questionsOutOfRange() {
        refused("good, both bad", UNKNOWN, store -> store.good(3, 7));
        refused("good", BAD_VALUE, store -> store.good(0, 7));
        refused("substitute, both bad", UNKNOWN, store -> store.substitute(3, -1));
        refused("substitute", BAD_VALUE, store -> store.substitute(0, -1));
        refused("substitute, not so long", NONE, store -> store.substitute(0, 2));
        refused("batch, both bad", UNKNOWN, store -> store.batch(5, 12));
        refused("batch", BAD_VALUE, store -> store.batch(0, 12));
        refused("stage, both bad", UNKNOWN, store -> store.stage(4, 3));
        refused("stage", BAD_VALUE, store -> store.stage(0, 3));
        refused("orderTold, both bad", UNKNOWN, store -> store.orderTold(3, 9));
        refused("orderTold", BAD_VALUE, store -> store.orderTold(0, 9));
        refused("taken, all bad", UNKNOWN, store -> store.taken(3, -1, 2));
        refused("taken, place", BAD_VALUE, store -> store.taken(0, -1, 0));
        refused("taken, what, and not so many", BAD_VALUE, store -> store.taken(0, 2, 2));
        refused("taken, not so many", NONE, store -> store.taken(0, 2, 0));
        refused("taken, of a refused order", NONE, store -> store.taken(1, 0, 0));
        refused("wouldGet, all bad", UNKNOWN, store -> store.wouldGet(3, 0, -1, true, 4));
        refused("wouldGet, units", BAD_VALUE, store -> store.wouldGet(0, 1000, 0, true, 0));
        refused("wouldGet, least", BAD_VALUE, store -> store.wouldGet(0, 1, 61, true, 0));
        refused("wouldGet, what", BAD_VALUE, store -> store.wouldGet(0, 1, 0, true, 4));
        refused("wouldExpire, both bad", UNKNOWN, store -> store.wouldExpire(5, 0));
        refused("wouldExpire", BAD_VALUE, store -> store.wouldExpire(0, 61));
        refused("stageIn, batch", UNKNOWN, store -> store.stageIn(5, 1));
        refused("stageIn, stage of no units", UNKNOWN, store -> store.stageIn(0, 4));
        refused("stageIn, no units", NONE, store -> store.stageIn(0, 1));
        refused("event, both bad", BAD_VALUE, store -> store.event(-1, 4));
        refused("event, what, and not so many", BAD_VALUE, store -> store.event(10, 4));
        refused("event, not known any more", NONE, store -> store.event(10, 0));
        refused("takes, both bad", UNKNOWN, store -> store.takes(2, true, 5));
        refused("takes", BAD_VALUE, store -> store.takes(2, true, 4));
        refused("count", BAD_VALUE, store -> store.count(19));
    }

    private void whatIsSoAlready() {
        refused("setPrice", NONE, store -> store.setPrice(1, 150));
        refused("setStage", NONE, store -> store.setStage(3, 10, Stores.bits(70.0f)));
        refused("set 0", NONE, store -> store.set(0, 0));
        refused("set 1", NONE, store -> store.set(1, 2));
        refused("set 2", NONE, store -> store.set(2, 5));
        refused("setRebate", NONE, store -> store.setRebate(Stores.bits(7.5f)));
    }

    private void deliveries() {
        delivery("a fault behind all errors", "9x0/99,0x1,", -111);
        delivery("no such good behind a bad value", "0x0,1x0/99,3x1", UNKNOWN);
        delivery("bad units in the last entry", "0x1,1x1,2x0", BAD_VALUE);
        delivery("bad days in the last entry", "0x1,1x20/20,2x1/6", BAD_VALUE);
    }

    private void delivery(String call, String text, int due) {
        Maker withText = () -> Stores.withText(Stores.busy(), text);
        new RefusedTest("delivery", withText).refused(call, due, ShelfStages::readDelivery);
    }

    private void noMoreRoom() {
        refused("addGood", FULL, store -> store.addGood(1, 1));
        refused("addSubstitute", FULL, store -> store.addSubstitute(0, 5, 4));
        refused("bring", FULL, store -> store.bring(11, 1, 1));
        refused("readDelivery", FULL, ShelfStages::readDelivery);
        refused("order", FULL, store -> store.order(11, 1, 0, true));
        refused("pass", NOT_POSSIBLE, store -> store.pass(1));
        refused("type", FULL, store -> store.type('0'));
        refused("good", UNKNOWN, store -> store.good(12, 0));
        refused("batch", UNKNOWN, store -> store.batch(40, 0));
        refused("orderTold", UNKNOWN, store -> store.orderTold(30, 0));
        refused("taken", UNKNOWN, store -> store.taken(30, 0, 0));
        refused("event", NONE, store -> store.event(10, 0));
        refused("substitute", NONE, store -> store.substitute(0, 4));
    }

    private void errorsAheadOfFull() {
        refused("addGood", BAD_VALUE, store -> store.addGood(1, 0));
        refused("addSubstitute, no good", UNKNOWN, store -> store.addSubstitute(0, 12, 5));
        refused("addSubstitute, the same", BAD_VALUE, store -> store.addSubstitute(0, 0, 4));
        refused("addSubstitute, place", BAD_VALUE, store -> store.addSubstitute(0, 5, 5));
        refused("addSubstitute, in the list", NOT_POSSIBLE, store -> store.addSubstitute(0, 4, 4));
        refused("bring, no good", UNKNOWN, store -> store.bring(12, 1, 1));
        refused("bring, left", BAD_VALUE, store -> store.bring(0, 1, 11));
        refused("order, no good", UNKNOWN, store -> store.order(12, 1, 0, true));
        refused("order, units", BAD_VALUE, store -> store.order(0, 1000, 0, true));
        refused("pass, days", BAD_VALUE, store -> store.pass(61));
        fullDelivery("fault", "0x1,,", -104);
        fullDelivery("no good", "0x1,12x1", UNKNOWN);
        fullDelivery("units", "0x1,0x0", BAD_VALUE);
        fullDelivery("one batch", "0x1", FULL);
    }

    private void fullDelivery(String call, String text, int due) {
        Maker withText = () -> Stores.withText(Stores.full(), text);
        new RefusedTest("full store", withText).refused("readDelivery, " + call, due,
            ShelfStages::readDelivery);
    }

    /** 39 batches, and a delivery of two: none of them comes. */
    private static ShelfStages fullButForTheLast() {
        ShelfStages store = Stores.withGoods(1);
        for (int batch = 0; batch < 39; batch++) {
            store.bring(0, 1, 10);
        }
        return Stores.withText(store, "0x1,0x1");
    }

    private void deliveryOfTwo() {
        refused("readDelivery", FULL, ShelfStages::readDelivery);
    }
}
