/** A day's three steps, donation, the log, the history and the snapshot at their borders. */
public final class DayTest {
    private static final int NONE = Stores.NONE;

    private interface Act {
        int on(ShelfStages store);
    }

    public static void main(String[] args) {
        daysLeftOfEmptyBatches();
        expiredBeforeGiven();
        stageOfTheDayItself();
        stageOfDonation();
        mostADay();
        mostADayByNumber();
        mostIsOfEachDay();
        wouldExpireAsItDoes();
        stageInAsItComes();
        wouldGetAsItGets();
        tenEvents();
        moreThanTenEventsAtOnce();
        eachActRecordsOneState();
        whatIsNoAct();
        theOldestStateIsDropped();
        ordersOfAnotherDay();
        oneSnapshot();
        textIsNoState();
        Check.end();
    }

    private static void daysLeftOfEmptyBatches() {
        Check check = new Check("the days left of each batch with units on the shelf");
        ShelfStages store = Stores.withBatches(5, 10, 5, 9, 1, 2);
        store.order(0, 6, 0, false);
        check.due("sold out", store.batch(2, 3), 0);
        store.pass(1);
        check.due("with units", store.batch(0, 2), 9);
        check.due("sold out", store.batch(2, 2), 2);
        store.recall(0);
        check.due("no day too many", store.pass(60), 0);
        check.due("recalled", store.batch(0, 2), 9);
        check.due("expired none", store.count(8), 0);
        check.due("day", store.count(0), 61);
    }

    private static void expiredBeforeGiven() {
        Check check = new Check("batches with 0 days left are expired, then others are given");
        ShelfStages store = Stores.withBatches(5, 1, 5, 2, 5, 3);
        store.set(1, 1);
        store.set(2, 999);
        check.due("expire", store.pass(1), 5);
        check.due("of the one with 0 days", store.batch(0, 7), 5);
        check.due("given of it", store.batch(0, 5), 0);
        check.due("given of the one with 1 day", store.batch(1, 5), 5);
        check.due("left of the expired one", store.batch(0, 2), 0);
        check.due("left of the given one", store.batch(1, 2), 1);
        check.due("later", store.pass(60), 0);
    }

    private static void stageOfTheDayItself() {
        Check check = new Check("the stage by the days left after the day");
        ShelfStages store = Stores.withBatches(9, 7, 9, 6);
        store.set(1, 1);
        store.pass(1);
        check.due("6 days left", store.batch(0, 5), 0);
        check.due("5 days left", store.batch(1, 5), 9);
        store.pass(1);
        check.due("5 days left a day later", store.batch(0, 5), 9);
    }

    private static void stageOfDonation() {
        Check check = new Check("at least the stage of donation");
        // After one day: the stages 0, 1, 2 and 3.
        for (int from = 1; from <= 4; from++) {
            ShelfStages store = Stores.withBatches(2, 7, 2, 6, 2, 3, 2, 2);
            store.set(1, from);
            store.pass(1);
            for (int batch = 0; batch < 4; batch++) {
                check.due("from " + from + ", stage " + batch, store.batch(batch, 5), batch >= from ? 2 : 0);
            }
        }
    }

    private static void mostADay() {
        Check check = new Check("the units given on a day do not become more than the most a day");
        int[] most = {0, 1, 4, 5, 6, 10, 11, 12, 999};
        for (int each : most) {
            ShelfStages store = Stores.withBatches(5, 4, 1, 4, 5, 4);
            store.set(1, 1);
            store.set(2, each);
            store.pass(1);
            check.due("most " + each, store.count(6), Math.min(each, 11));
            check.due("of 0", store.batch(0, 5), Math.min(each, 5));
            check.due("of 1", store.batch(1, 5), each > 5 ? 1 : 0);
            check.due("of 2", store.batch(2, 5), Math.max(0, Math.min(each - 6, 5)));
            int events = each == 0 ? 0 : each <= 5 ? 1 : each == 6 ? 2 : 3;
            check.due("first of the events", store.event(events, 0), 0);
            check.due("last of the events", store.event(0, 0), events == 0 ? 0 : 2);
        }
    }

    private static void mostADayByNumber() {
        Check check = new Check("of each batch by its number");
        ShelfStages store = Stores.withBatches(3, 10, 3, 6, 3, 2, 3, 4);
        store.set(1, 1);
        store.set(2, 4);
        store.set(0, 1);
        store.pass(1);
        check.due("not in its stage", store.batch(0, 5), 0);
        check.due("first", store.batch(1, 5), 3);
        check.due("a part of the second", store.batch(2, 5), 1);
        check.due("none left for the third", store.batch(3, 5), 0);
        check.due("999 at once", givenOf999(999), 999);
        check.due("998 of 999", givenOf999(998), 998);
    }

    private static int givenOf999(int most) {
        ShelfStages store = Stores.withBatches(999, 2);
        store.set(1, 3);
        store.set(2, most);
        store.pass(1);
        return store.batch(0, 5);
    }

    private static void mostIsOfEachDay() {
        Check check = new Check("the most is that of a day, not of a call");
        ShelfStages store = Stores.withBatches(30, 5);
        store.set(1, 1);
        store.set(2, 7);
        check.due("expire after four days of 7", store.pass(5), 2);
        check.due("given", store.batch(0, 5), 28);
        check.due("event of the third day", store.event(2, 3), 3);
    }

    private static void wouldExpireAsItDoes() {
        Check check = new Check("what would expire is what does");
        for (int most = 0; most <= 60; most += 3) {
            for (int days = 1; days <= 60; days += most % 2 == 0 ? 1 : 7) {
                ShelfStages store = Stores.withBatches(40, 3, 20, 10, 30, 4, 1, 1);
                store.set(1, 1 + most % 4);
                store.set(2, most);
                int[] would = new int[4];
                for (int batch = 0; batch < 4; batch++) {
                    would[batch] = store.wouldExpire(batch, days);
                }
                store.pass(days);
                for (int batch = 0; batch < 4; batch++) {
                    check.due(most + " a day, " + days + " days, " + batch, would[batch], store.batch(batch, 7));
                }
            }
        }
    }

    private static void stageInAsItComes() {
        Check check = new Check("a stage comes in as many days as are told");
        for (int left = 1; left <= 12; left++) {
            for (int stage = 1; stage <= 3; stage++) {
                ShelfStages store = Stores.withGood(1, 12);
                store.bring(0, 1, left);
                int told = store.stageIn(0, stage);
                int days = 0;
                while (store.batch(0, 10) < stage && store.batch(0, 3) > 0) {
                    store.pass(1);
                    days++;
                }
                check.due(left + " left, stage " + stage, told, store.batch(0, 3) > 0 ? days : NONE);
            }
        }
        ShelfStages store = Stores.withGood(1, 60);
        store.setStage(3, 1, 0);
        store.bring(0, 1, 60);
        check.due("1 percent of 60 days is no day", store.stageIn(0, 3), NONE);
        store.setStage(3, 2, 0);
        check.due("2 percent is one", store.stageIn(0, 3), 59);
    }

    private static void wouldGetAsItGets() {
        Check check = new Check("what an order would get is what it gets");
        for (int units = 1; units <= 120; units++) {
            ShelfStages store = Stores.withBatches(20, 10, 9, 4);
            store.addGood(130, 20);
            store.addSubstitute(0, 1, 0);
            store.bring(1, 60, 1);
            store.setRebate(Stores.bits(12.3f));
            int[] would = new int[4];
            for (int what = 0; what < 4; what++) {
                would[what] = store.wouldGet(0, units, 1, true, what);
            }
            store.order(0, units, 1, true);
            int[] whats = {2, 3, 6, 7};
            for (int what = 0; what < 4; what++) {
                check.due(units + " units, what " + what, would[what], store.orderTold(0, whats[what]));
            }
        }
    }

    private static void tenEvents() {
        Check check = new Check("the latest 10 events are known");
        ShelfStages store = Stores.withGoods(1);
        for (int events = 0; events <= 12; events++) {
            for (int back = 0; back <= 12; back++) {
                int due = back < Math.min(events, 10) ? events - back : NONE;
                check.due(events + " events, back " + back, store.event(back, 2), due);
            }
            store.bring(0, events + 1, 1);
        }
    }

    private static void moreThanTenEventsAtOnce() {
        Check check = new Check("the latest 10 events of one call");
        ShelfStages store = Stores.withGoods(1);
        Stores.withText(store, "0x1,0x2,0x3,0x4,0x5,0x6,0x7,0x8,0x9,0x10,0x11,0x12");
        store.readDelivery();
        for (int back = 0; back < 10; back++) {
            check.due("delivered " + back + " back", store.event(back, 2), 12 - back);
        }
        check.due("10 back", store.event(10, 0), NONE);
        store.recall(0);
        check.due("recalled 9 back", store.event(9, 1), 2);
        check.due("its kind", store.event(9, 0), 3);
        store.undo();
        check.due("9 back after undo", store.event(9, 2), 3);
        check.due("its kind after undo", store.event(9, 0), 0);
        check.due("expired", store.pass(60), 78);
        check.due("expired 9 back", store.event(9, 1), 2);
        check.due("its day", store.event(9, 3), 10);
    }

    private static void eachActRecordsOneState() {
        isAct("addGood", 3, store -> store.addGood(1, 1));
        isAct("setPrice", 100, store -> store.setPrice(0, 1));
        isAct("addSubstitute", 1, store -> store.addSubstitute(1, 0, 0));
        isAct("removeSubstitute", 2, store -> store.removeSubstitute(0, 1));
        isAct("setStage, share", 25, store -> store.setStage(2, 26, Stores.bits(40.0f)));
        isAct("setStage, markdown", 25, store -> store.setStage(2, 25, Stores.bits(41.0f)));
        isAct("set 0", 0, store -> store.set(0, 1));
        isAct("set 1", 2, store -> store.set(1, 4));
        isAct("set 2", 5, store -> store.set(2, 0));
        isAct("setRebate", 1, store -> store.setRebate(0));
        isAct("bring", 5, store -> store.bring(0, 1, 1));
        isAct("readDelivery", 2, ShelfStages::readDelivery);
        isAct("order", 9, store -> store.order(1, 9, 0, false));
        isAct("order that gets none", 0, store -> store.order(0, 9, 60, false));
        isAct("breakUnits", 0, store -> store.breakUnits(2, 21));
        isAct("recall", 21, store -> store.recall(1));
        isAct("pass", 0, store -> store.pass(1));
        isAct("pass with donation", 0, store -> store.pass(60));
        isAct("restore", 0, ShelfStages::restore);
    }

    /** With three states in the history and with four. */
    private static void isAct(String call, int due, Act act) {
        Check check = new Check("an act records the state before it: " + call);
        ShelfStages store = Stores.busy();
        check.due("at first", store.count(17), 4);
        String before = Stores.toldOfState(store);
        check.due("answer", act.on(store), due);
        check.due("states of four", store.count(17), 4);
        check.due("undo", store.undo(), 3);
        check.dueText("the state", Stores.toldOfState(store), before);
        check.due("answer again", act.on(store), due);
        check.due("states of three", store.count(17), 4);
        check.due("undo again", store.undo(), 3);
        check.dueText("the state again", Stores.toldOfState(store), before);
    }

    private static void whatIsNoAct() {
        Check check = new Check("no act records no state");
        ShelfStages store = Stores.busy();
        store.undo();
        store.type('0');
        check.due("type", store.count(17), 3);
        store.keep();
        check.due("keep", store.count(17), 3);
        store.clearText();
        check.due("clearText", store.count(17), 3);
        Stores.told(store);
        check.due("what is told", store.count(17), 3);
        store.undo();
        check.due("undo", store.count(17), 2);
    }

    private static void theOldestStateIsDropped() {
        Check check = new Check("at most 4 states, the oldest one is dropped");
        for (int acts = 0; acts <= 9; acts++) {
            ShelfStages store = new ShelfStages();
            for (int act = 0; act < acts; act++) {
                store.addGood(1 + act, 1);
            }
            int states = Math.min(acts, 4);
            check.due(acts + " acts", store.count(17), states);
            for (int left = states - 1; left >= 0; left--) {
                check.due("undo", store.undo(), left);
                check.due("goods", store.count(1), acts - states + left);
            }
            check.due("no more", store.undo(), NONE);
            check.due("the same goods", store.count(1), acts - states);
            check.due("no state", store.count(17), 0);
        }
    }

    private static void ordersOfAnotherDay() {
        Check check = new Check("orders come back as they were");
        ShelfStages store = Stores.withBatches(30, 10);
        store.pass(2);
        store.order(0, 3, 1, true);
        store.keep();
        String kept = Stores.toldOfState(store);
        store.undo();
        store.pass(1);
        store.order(0, 8, 2, false);
        check.due("another day", store.orderTold(0, 8), 3);
        check.due("other units", store.taken(0, 0, 1), 8);
        store.restore();
        check.due("its day", store.orderTold(0, 8), 2);
        check.due("its units", store.taken(0, 0, 1), 3);
        check.dueText("the state", Stores.toldOfState(store), kept);
        store.undo();
        check.due("the other day again", store.orderTold(0, 8), 3);
        check.due("the other units again", store.taken(0, 0, 1), 8);
    }

    private static void oneSnapshot() {
        Check check = new Check("one snapshot, empty at first, no part of a state");
        ShelfStages store = new ShelfStages();
        check.due("empty", store.restore(), NONE);
        store.addGood(1, 1);
        store.keep();
        store.undo();
        check.due("goods", store.count(1), 0);
        check.due("stays over undo", store.restore(), 0);
        check.due("goods restored", store.count(1), 1);
        store.addGood(2, 2);
        store.keep();
        check.due("restored with two", store.restore(), 0);
        check.due("the later one alone", store.count(1), 2);
        check.due("stays", store.restore(), 0);
        check.due("states", store.count(17), 4);
    }

    private static void textIsNoState() {
        Check check = new Check("a state is everything but the text");
        ShelfStages store = Stores.withText(Stores.withGoods(1), "0x7");
        store.keep();
        store.bring(0, 1, 1);
        store.clearText();
        check.due("undo", store.undo(), 1);
        check.due("text after undo", store.count(18), 0);
        Stores.withText(store, "0x9");
        store.restore();
        check.due("text after restore", store.count(18), 3);
        check.due("read", store.readDelivery(), 1);
        check.due("its units", store.batch(0, 1), 9);
    }
}
