/** Promises 9 to 14: batches come, are sold, broken, recalled, and age. */
public final class HappeningsTest {
    private static final int UNKNOWN = Stores.UNKNOWN;
    private static final int BAD_VALUE = Stores.BAD_VALUE;
    private static final int FULL = Stores.FULL;
    private static final int NOT_POSSIBLE = Stores.NOT_POSSIBLE;
    private static final int NONE = Stores.NONE;

    public static void main(String[] args) {
        promise9Bring();
        promise10Entries();
        promise10Faults();
        promise10Errors();
        promise10Room();
        promise11Errors();
        promise11Rules();
        promise11EqualBatches();
        promise11Substitutes();
        promise11Cents();
        promise11Takes();
        promise12BreakUnits();
        promise13Recall();
        promise14Pass();
        promise14Expiry();
        promise14Donation();
        promise14DonationParts();
        Check.end();
    }

    private static void promise9Bring() {
        Check check = new Check("promise 9");
        ShelfStages store = Stores.withGood(100, 7);
        for (int wild : Stores.WILD) {
            check.due("good " + wild, store.bring(wild, 0, 0), UNKNOWN);
            check.due("units " + wild, store.bring(0, wild, 1), BAD_VALUE);
            check.due("left " + wild, store.bring(0, 1, wild), BAD_VALUE);
        }
        check.due("good 1", store.bring(1, 1, 1), UNKNOWN);
        check.due("units 0", store.bring(0, 0, 1), BAD_VALUE);
        check.due("units 1000", store.bring(0, 1000, 1), BAD_VALUE);
        check.due("left 0", store.bring(0, 1, 0), BAD_VALUE);
        check.due("left 8", store.bring(0, 1, 8), BAD_VALUE);
        check.due("states", store.count(17), 1);
        check.due("least", store.bring(0, 1, 1), 0);
        check.due("most", store.bring(0, 999, 7), 1);
        int[] told = {0, 999, 7, 999, 0, 0, 0, 0, 0, 0, 0, 0};
        for (int what = 0; what < told.length; what++) {
            check.due("batch(1, " + what + ")", store.batch(1, what), told[what]);
        }
        check.due("kind of the event", store.event(0, 0), 0);
        check.due("batch of the event", store.event(0, 1), 1);
        check.due("units of the event", store.event(0, 2), 999);
        for (int batch = 2; batch < 40; batch++) {
            check.due("batch " + batch, store.bring(0, 2, 2), batch);
        }
        check.due("bad one more", store.bring(0, 2, 8), BAD_VALUE);
        check.due("one more", store.bring(0, 2, 2), FULL);
        check.due("batches", store.count(2), 40);
        store.order(0, 999, 0, false);
        store.undo();
        store.undo();
        check.due("a number again", store.bring(0, 3, 3), 39);
        check.due("its units sold", store.batch(39, 4), 0);
    }

    private static void promise10Entries() {
        Check check = new Check("promise 10");
        ShelfStages store = new ShelfStages();
        store.addGood(10, 5);
        store.addGood(20, 8);
        Stores.withText(store, "0x5,1x999/3,0x1/5,1x10");
        check.due("readDelivery()", store.readDelivery(), 4);
        int[] goods = {0, 1, 0, 1};
        int[] units = {5, 999, 1, 10};
        int[] left = {5, 3, 5, 8};
        for (int batch = 0; batch < 4; batch++) {
            check.due("good of " + batch, store.batch(batch, 0), goods[batch]);
            check.due("units of " + batch, store.batch(batch, 1), units[batch]);
            check.due("left of " + batch, store.batch(batch, 2), left[batch]);
            check.due("event of " + batch, store.event(3 - batch, 1), batch);
            check.due("kind of " + batch, store.event(3 - batch, 0), 0);
        }
        check.due("the text stays", store.count(18), 22);
        check.due("one act", store.count(17), 3);
        check.due("again", store.readDelivery(), 4);
        check.due("batches", store.count(2), 8);
        store.undo();
        check.due("batches then", store.count(2), 4);
        check.due("the text still stays", store.count(18), 22);
    }

    private static void promise10Faults() {
        Check check = new Check("promise 10");
        String[] texts = {"", "0", "0x", "0x1,", "0x1/", "x", ",", "/", "00x1", "01x1", "0x01",
            "0x1/05", "1234x1", "123x1234", "0x1/1234", "0x1/1/1", "0x1x1", "0/1", "0,1", "0x1,,",
            "0x,", "0x/", "0xx", "0x1/,", "0x1//", "0x1/x", " 0x1", "0x1 ", "0X1", "-1x1",
            "0x1,x", "0x1,0x2,0", "0x10/10,1x", "0x1/5,0x1/5,0x1/5,0x1/5,0x1/5,0x1/5/",
            "0x" + (char) 0x0661, "0x1" + (char) 0, "0x1" + (char) 0xFFFF, "9x0,9x9/0,0x00",
            "0x1/00", "999x999/999x", "0x:", "0x1+", "0x1."};
        int[] faults = {0, 1, 2, 4, 4, 0, 0, 0, 1, 1, 3,
            5, 3, 7, 7, 5, 3, 1, 1, 4,
            2, 2, 2, 4, 4, 4, 0, 3, 1, 0,
            4, 9, 10, 35,
            2, 3, 3, 13,
            5, 11, 2, 3, 3};
        ShelfStages store = Stores.withGoods(1);
        for (int at = 0; at < texts.length; at++) {
            Stores.withText(store, texts[at]);
            check.due("fault of " + texts[at], store.readDelivery(), -100 - faults[at]);
        }
        check.due("batches", store.count(2), 0);
        check.due("states", store.count(17), 1);
    }

    private static void promise10Errors() {
        Check check = new Check("promise 10");
        ShelfStages store = Stores.withGoods(2);
        String[] texts = {"2x1", "0x0,2x0", "0x1,999x1", "0x0", "0x1/0", "0x1/11", "1x999/10,0x1/999",
            "0x1,0x0", "10x1", "0x1/10"};
        int[] due = {UNKNOWN, UNKNOWN, UNKNOWN, BAD_VALUE, BAD_VALUE, BAD_VALUE, BAD_VALUE,
            BAD_VALUE, UNKNOWN, 1};
        for (int at = 0; at < texts.length; at++) {
            Stores.withText(store, texts[at]);
            check.due(texts[at], store.readDelivery(), due[at]);
        }
        check.due("batches", store.count(2), 1);
    }

    private static void promise10Room() {
        Check check = new Check("promise 10");
        ShelfStages store = Stores.withGoods(1);
        StringBuilder most = new StringBuilder("0x1");
        for (int entry = 1; entry < 15; entry++) {
            most.append(",0x1");
        }
        Stores.withText(store, most.toString());
        check.due("15 entries", store.readDelivery(), 15);
        check.due("one more character", store.type(','), 60);
        check.due("comma at the end", store.readDelivery(), -160);
        Stores.withText(store, most.toString());
        check.due("30 batches", store.readDelivery(), 15);
        check.due("45 would be too many", store.readDelivery(), FULL);
        check.due("batches", store.count(2), 30);
        Stores.withText(store, "0x1,0x1,0x1,0x1,0x1,0x1,0x1,0x1,0x1,0x1,0x1");
        check.due("41 would be too many", store.readDelivery(), FULL);
        Stores.withText(store, "0x1,0x1,0x1,0x1,0x1,0x1,0x1,0x1,0x1,0x0,0x1");
        check.due("a bad value is told first", store.readDelivery(), BAD_VALUE);
        Stores.withText(store, "0x1,0x1,0x1,0x1,0x1,0x1,0x1,0x1,0x1,0x1");
        check.due("40 are not", store.readDelivery(), 10);
        check.due("batches", store.count(2), 40);
    }

    private static void promise11Errors() {
        Check check = new Check("promise 11");
        ShelfStages store = Stores.withBatches(100, 10);
        for (int wild : Stores.WILD) {
            check.due("good " + wild, store.order(wild, 0, -1, true), UNKNOWN);
            check.due("units " + wild, store.order(0, wild, 0, true), BAD_VALUE);
            check.due("least " + wild, store.order(0, 1, wild, true), BAD_VALUE);
        }
        check.due("good 1", store.order(1, 1, 0, true), UNKNOWN);
        check.due("units 0", store.order(0, 0, 0, true), BAD_VALUE);
        check.due("units 1000", store.order(0, 1000, 0, true), BAD_VALUE);
        check.due("least -1", store.order(0, 1, -1, true), BAD_VALUE);
        check.due("least 61", store.order(0, 1, 61, true), BAD_VALUE);
        check.due("orders", store.count(3), 0);
        check.due("least 60", store.order(0, 1, 60, true), 0);
        check.due("units 999", store.order(0, 999, 0, true), 100);
        for (int order = 2; order < 30; order++) {
            check.due("order " + order, store.order(0, 1, 0, true), 0);
        }
        check.due("bad 31st order", store.order(0, 0, 0, true), BAD_VALUE);
        check.due("31st order", store.order(0, 1, 0, true), FULL);
        check.due("orders", store.count(3), 30);
        store.undo();
        check.due("a number again", store.order(0, 1, 0, true), 0);
    }

    private static void promise11Rules() {
        Check check = new Check("promise 11");
        // By the days left: 1 is the cheapest one at first, then 2, 0 and 3.
        int[][] firstTaken = {{1, 2, 0, 3}, {3, 0, 2, 1}, {1, 2, 0, 3}, {3, 0, 2, 1}};
        for (int rule = 0; rule < 4; rule++) {
            ShelfStages store = Stores.withBatches(5, 5, 5, 1, 5, 2, 5, 10);
            store.set(0, rule == 3 ? 2 : rule);
            if (rule == 3) {
                store.setStage(1, 50, Stores.bits(3.0f));
                store.setStage(2, 25, Stores.bits(2.0f));
                store.setStage(3, 10, Stores.bits(1.0f));
                firstTaken[3] = new int[] {0, 2, 1, 3};
            }
            check.due("gets", store.order(0, 17, 0, false), 17);
            for (int place = 0; place < 4; place++) {
                check.due("rule " + rule + ", place " + place, store.taken(0, place, 0),
                    firstTaken[rule][place]);
                check.due("its units", store.taken(0, place, 1), place == 3 ? 2 : 5);
            }
        }
        ShelfStages store = Stores.withBatches(5, 5, 5, 4);
        check.due("exactly the least", store.order(0, 9, 5, false), 5);
        check.due("taken", store.taken(0, 0, 0), 0);
        check.due("more than any has", store.order(0, 9, 6, false), 0);
    }

    private static void promise11EqualBatches() {
        Check check = new Check("promise 11");
        for (int rule = 0; rule < 3; rule++) {
            ShelfStages store = Stores.withBatches(5, 7, 5, 7, 5, 7);
            store.set(0, rule);
            store.order(0, 6, 0, false);
            check.due("rule " + rule + ", first", store.taken(0, 0, 0), 0);
            check.due("rule " + rule + ", second", store.taken(0, 1, 0), 1);
            store.order(0, 6, 0, false);
            check.due("rule " + rule + ", the rest", store.taken(1, 0, 0), 1);
            check.due("its units", store.taken(1, 0, 1), 4);
        }
        ShelfStages store = Stores.withBatches(5, 10, 5, 6);
        store.set(0, 2);
        store.order(0, 1, 0, false);
        check.due("one price, other days", store.taken(0, 0, 0), 0);
    }

    private static void promise11Substitutes() {
        Check check = new Check("promise 11");
        ShelfStages store = Stores.withGoods(4);
        store.addSubstitute(0, 2, 0);
        store.addSubstitute(0, 1, 1);
        store.addSubstitute(2, 3, 0);
        store.bring(3, 9, 1);
        store.bring(1, 5, 1);
        store.bring(2, 5, 9);
        store.bring(0, 5, 10);
        check.due("without", store.order(0, 20, 0, false), 5);
        store.undo();
        check.due("with", store.order(0, 11, 0, true), 11);
        int[] batches = {3, 2, 1};
        int[] units = {5, 5, 1};
        for (int place = 0; place < 3; place++) {
            check.due("batch " + place, store.taken(0, place, 0), batches[place]);
            check.due("units " + place, store.taken(0, place, 1), units[place]);
        }
        check.due("substitutes", store.orderTold(0, 3), 6);
        store.undo();
        check.due("least for substitutes too", store.order(0, 99, 9, true), 10);
        store.undo();
        check.due("no substitutes of substitutes", store.order(0, 99, 0, true), 15);
    }

    private static void promise11Cents() {
        Check check = new Check("promise 11");
        ShelfStages store = new ShelfStages();
        store.addGood(100, 10);
        store.addGood(150, 10);
        store.addGood(80, 10);
        store.addSubstitute(0, 1, 0);
        store.addSubstitute(0, 2, 1);
        store.bring(0, 3, 10);
        store.bring(1, 3, 10);
        store.bring(1, 3, 2);
        store.bring(2, 3, 10);
        check.due("gets", store.order(0, 12, 0, true), 12);
        check.due("brought by 0", store.batch(0, 11), 300);
        check.due("brought by 1, at most 100 a unit", store.batch(1, 11), 300);
        check.due("brought by 2, marked down", store.batch(2, 11), (int) (3 * (150 * (1.0f - 40.0f / 100.0f))));
        check.due("brought by 3", store.batch(3, 11), 240);
        int sum = 300 + 300 + store.batch(2, 11) + 240;
        check.due("due", store.orderTold(0, 7), sum);
        store.undo();
        store.setRebate(Stores.bits(7.77f));
        store.order(0, 12, 0, true);
        check.due("due with rebate", store.orderTold(0, 7), sum - (int) ((float) sum * 7.77f / 100.0f));
        check.due("brought without rebate", store.batch(1, 11), 300);
        check.due("all cents", store.count(13), store.orderTold(0, 7));
        ShelfStages thirds = Stores.withGood(333, 10);
        thirds.setStage(1, 50, Stores.bits(33.3f));
        thirds.bring(0, 7, 5);
        thirds.order(0, 7, 0, false);
        check.due("due in floats", thirds.orderTold(0, 7), (int) (7 * (333 * (1.0f - 33.3f / 100.0f))));
    }

    private static void promise11Takes() {
        Check check = new Check("promise 11");
        ShelfStages store = Stores.withGood(1, 60);
        for (int batch = 0; batch < 40; batch++) {
            store.bring(0, 2, 60);
        }
        store.order(0, 1, 0, false);
        for (int order = 1; order < 29; order++) {
            check.due("gets", store.order(0, 2, 0, false), 2);
        }
        check.due("all but one unit", store.order(0, 22, 0, false), 22);
        int takes = 0;
        for (int order = 0; order < 30; order++) {
            takes += store.orderTold(order, 6);
        }
        check.due("takes", takes, 69);
        for (int order = 1; order < 29; order++) {
            check.due("first of " + order, store.taken(order, 0, 0), order - 1);
            check.due("second of " + order, store.taken(order, 1, 0), order);
        }
        check.due("last of 29", store.taken(29, 11, 0), 39);
        check.due("its units", store.taken(29, 11, 1), 1);
        check.due("behind it", store.taken(29, 12, 0), NONE);
        check.due("sold event", store.event(0, 0), 1);
        check.due("its batch", store.event(0, 1), 39);
        check.due("its units", store.event(0, 2), 1);
        check.due("one event a batch", store.event(9, 1), 30);
    }

    private static void promise12BreakUnits() {
        Check check = new Check("promise 12");
        ShelfStages store = Stores.withBatches(10, 10, 20, 5);
        for (int wild : Stores.WILD) {
            check.due("batch " + wild, store.breakUnits(wild, 0), UNKNOWN);
            check.due("units " + wild, store.breakUnits(0, wild), BAD_VALUE);
        }
        check.due("batch 2", store.breakUnits(2, 1), UNKNOWN);
        check.due("units 0", store.breakUnits(0, 0), BAD_VALUE);
        check.due("units 1000", store.breakUnits(0, 1000), BAD_VALUE);
        check.due("units 999", store.breakUnits(0, 999), NOT_POSSIBLE);
        check.due("11 of 10", store.breakUnits(0, 11), NOT_POSSIBLE);
        check.due("events", store.event(2, 0), NONE);
        check.due("3 of 10", store.breakUnits(0, 3), 7);
        check.due("broken", store.batch(0, 8), 3);
        check.due("wasted", store.batch(0, 6), 3);
        check.due("kind", store.event(0, 0), 3);
        check.due("units", store.event(0, 2), 3);
        check.due("the rest", store.breakUnits(0, 7), 0);
        check.due("broken then", store.batch(0, 8), 10);
        check.due("one of none", store.breakUnits(0, 1), NOT_POSSIBLE);
        check.due("the other batch", store.batch(1, 3), 20);
        check.due("undo", store.undo(), 3);
        check.due("shelf then", store.batch(0, 3), 7);
    }

    private static void promise13Recall() {
        Check check = new Check("promise 13");
        ShelfStages store = Stores.withGoods(3);
        for (int wild : Stores.WILD) {
            check.due("good " + wild, store.recall(wild), UNKNOWN);
        }
        check.due("good 3", store.recall(3), UNKNOWN);
        check.due("no batches", store.recall(0), NONE);
        store.bring(0, 5, 5);
        store.bring(1, 6, 5);
        store.bring(0, 7, 3);
        store.bring(0, 8, 1);
        store.breakUnits(3, 8);
        store.breakUnits(2, 6);
        check.due("recall(0)", store.recall(0), 6);
        check.due("of 0", store.batch(0, 9), 5);
        check.due("of 1", store.batch(1, 9), 0);
        check.due("of 2", store.batch(2, 9), 1);
        check.due("of 3", store.batch(3, 9), 0);
        check.due("latest event's batch", store.event(0, 1), 2);
        check.due("its kind", store.event(0, 0), 3);
        check.due("its units", store.event(0, 2), 1);
        check.due("event before", store.event(1, 1), 0);
        check.due("event of the breaking", store.event(2, 1), 2);
        check.due("again", store.recall(0), NONE);
        check.due("states", store.count(17), 4);
        store.undo();
        check.due("shelf then", store.good(0, 3), 6);
    }

    private static void promise14Pass() {
        Check check = new Check("promise 14");
        ShelfStages store = new ShelfStages();
        for (int wild : Stores.WILD) {
            check.due("days " + wild, store.pass(wild), BAD_VALUE);
        }
        check.due("days 0", store.pass(0), BAD_VALUE);
        check.due("days 61", store.pass(61), BAD_VALUE);
        for (int call = 0; call < 166; call++) {
            store.pass(60);
        }
        check.due("day", store.count(0), 9960);
        check.due("to 10020", store.pass(60), NOT_POSSIBLE);
        check.due("61 days", store.pass(61), BAD_VALUE);
        check.due("to 10000", store.pass(40), NOT_POSSIBLE);
        check.due("to 9999", store.pass(39), 0);
        check.due("day", store.count(0), 9999);
        check.due("to 10000", store.pass(1), NOT_POSSIBLE);
        check.due("states", store.count(17), 4);
    }

    private static void promise14Expiry() {
        Check check = new Check("promise 14");
        ShelfStages store = Stores.withBatches(5, 1, 6, 2, 7, 3, 8, 3);
        store.breakUnits(3, 8);
        check.due("two days", store.pass(2), 11);
        check.due("of 0", store.batch(0, 7), 5);
        check.due("of 1", store.batch(1, 7), 6);
        check.due("of 2", store.batch(2, 7), 0);
        check.due("left of 0", store.batch(0, 2), 0);
        check.due("left of 2", store.batch(2, 2), 1);
        check.due("left of the empty 3", store.batch(3, 2), 3);
        check.due("latest event's batch", store.event(0, 1), 1);
        check.due("its kind", store.event(0, 0), 3);
        check.due("its day", store.event(0, 3), 2);
        check.due("day of the one before", store.event(1, 3), 1);
        check.due("one more", store.pass(1), 7);
        check.due("left of 0 still", store.batch(0, 2), 0);
        check.due("nothing left", store.pass(60), 0);
        check.due("one act each", store.undo(), 3);
        check.due("day then", store.count(0), 3);
        store.undo();
        check.due("shelf then", store.batch(2, 3), 7);
        check.due("two on one day", Stores.withBatches(5, 1, 1, 1, 6, 1, 7, 2).pass(1), 12);
    }

    private static void promise14Donation() {
        Check check = new Check("promise 14");
        ShelfStages store = Stores.withBatches(30, 3, 30, 10, 30, 2, 30, 6, 9, 1);
        check.due("none is given at first", store.wouldExpire(2, 2), 30);
        store.set(1, 2);
        store.set(2, 40);
        check.due("a day", store.pass(1), 9);
        int[] given = {30, 0, 10, 0, 0};
        for (int batch = 0; batch < 5; batch++) {
            check.due("given of " + batch, store.batch(batch, 5), given[batch]);
        }
        check.due("latest event", store.event(0, 0), 2);
        check.due("its batch", store.event(0, 1), 2);
        check.due("its units", store.event(0, 2), 10);
        check.due("its day", store.event(0, 3), 1);
        check.due("before it", store.event(1, 1), 0);
        check.due("expired first", store.event(2, 0), 3);
        check.due("next day", store.pass(1), 20);
        check.due("expired before it is given", store.batch(2, 7), 20);
        store.set(1, 1);
        store.pass(1);
        check.due("given at stage 1", store.batch(3, 5), 30);
        check.due("not at stage 0", store.batch(1, 5), 0);
        check.due("its day", store.event(0, 3), 3);
        store.set(2, 0);
        store.pass(5);
        check.due("none when the most is 0", store.batch(1, 5), 0);
        check.due("no event of none", store.event(0, 3), 3);
        check.due("given in all", store.count(6), 70);
    }

    private static void promise14DonationParts() {
        Check check = new Check("promise 14");
        ShelfStages store = Stores.withBatches(10, 5, 10, 5);
        store.set(1, 1);
        store.set(2, 6);
        store.pass(2);
        check.due("6 and 4", store.batch(0, 5), 10);
        check.due("2", store.batch(1, 5), 2);
        check.due("an event a day and batch", store.event(2, 2), 6);
        store.pass(1);
        check.due("2 and 6", store.batch(1, 5), 8);
        check.due("no event of the empty batch", store.event(1, 3), 2);
        check.due("shelf", store.count(4), 2);
    }
}
