/** What stands under 'Orders' in the document: the rules, substitutes, what is due, and the rebate. */
public final class OrdersTest {
    private static final int FULL = Stores.FULL;
    private static final int NONE = Stores.NONE;

    public static void main(String[] args) {
        thirtyOrdersEver();
        asFarAsThereAreUnits();
        orderOfAllBatches();
        ownGoodFirst();
        leastDaysLeft();
        rulesForOneBatchEach();
        rulesForSubstitutes();
        ruleOfADearerSubstitute();
        pricesWithinACent();
        capOfDearerSubstitutes();
        capIsOfTheOrderedGood();
        rebateOfTheSum();
        ordersThatGetNone();
        Check.end();
    }

    private static void thirtyOrdersEver() {
        Check check = new Check("at most 30 orders ever");
        ShelfStages store = Stores.withBatches(15, 10);
        for (int order = 0; order < 30; order++) {
            check.due("order " + order, store.order(0, 1, 0, false), order < 15 ? 1 : 0);
        }
        store.bring(0, 1, 10);
        check.due("the 31st", store.order(0, 1, 0, false), FULL);
        check.due("what it would get", store.wouldGet(0, 1, 0, false, 0), 1);
        check.due("orders", store.count(3), 30);
        check.due("day of the last", store.orderTold(29, 8), 0);
    }

    private static void asFarAsThereAreUnits() {
        Check check = new Check("as many units as it wants and the batch has");
        int[] wanted = {1, 4, 5, 6, 11, 12, 13};
        int[] parts = {1, 1, 1, 2, 2, 2, 2};
        int[] last = {1, 4, 5, 1, 6, 7, 7};
        for (int at = 0; at < wanted.length; at++) {
            ShelfStages store = Stores.withBatches(5, 9, 7, 10);
            int got = Math.min(wanted[at], 12);
            check.due(wanted[at] + " wanted", store.order(0, wanted[at], 0, true), got);
            check.due("batches", store.orderTold(0, 6), parts[at]);
            check.due("units of the last", store.taken(0, parts[at] - 1, 1), last[at]);
            check.due("behind it", store.taken(0, parts[at], 1), NONE);
            check.due("on the shelf", store.count(4), 12 - got);
            check.due("short", store.count(11), wanted[at] - got);
        }
    }

    private static void orderOfAllBatches() {
        Check check = new Check("one order from all 40 batches");
        for (int rule = 0; rule < 3; rule++) {
            ShelfStages store = Stores.withGood(100, 60);
            store.set(0, rule);
            for (int batch = 0; batch < 40; batch++) {
                store.bring(0, 1 + batch % 2, 60 - batch);
            }
            check.due("batches it would take from", store.wouldGet(0, 60, 0, false, 2), 40);
            check.due("gets", store.order(0, 999, 0, false), 60);
            check.due("batches", store.orderTold(0, 6), 40);
            check.due("last one", store.taken(0, 39, 0), rule == 0 ? 0 : rule == 1 ? 39 : 29);
            check.due("behind it", store.taken(0, 40, 0), NONE);
            check.due("on the shelf", store.count(4), 0);
        }
    }

    private static void ownGoodFirst() {
        Check check = new Check("first from batches of its good");
        int[] wanted = {5, 6, 9, 10, 12, 13};
        int[] substitutes = {0, 1, 4, 5, 7, 7};
        int[] parts = {1, 2, 2, 3, 3, 3};
        for (int at = 0; at < wanted.length; at++) {
            ShelfStages store = Stores.withGoods(3);
            store.addSubstitute(2, 0, 0);
            store.addSubstitute(2, 1, 1);
            store.bring(1, 3, 1);
            store.bring(0, 4, 2);
            store.bring(2, 5, 10);
            store.order(2, wanted[at], 0, true);
            check.due(wanted[at] + " wanted, substitutes", store.orderTold(0, 3), substitutes[at]);
            check.due("batches", store.orderTold(0, 6), parts[at]);
            check.due("first", store.taken(0, 0, 0), 2);
        }
    }

    private static void leastDaysLeft() {
        Check check = new Check("only batches with at least its least days left");
        int[] least = {0, 1, 2, 3, 4, 5, 60};
        int[] got = {14, 14, 12, 12, 8, 0, 0};
        for (int at = 0; at < least.length; at++) {
            ShelfStages store = Stores.withGoods(2);
            store.addSubstitute(0, 1, 0);
            store.bring(0, 2, 1);
            store.bring(1, 4, 3);
            store.bring(0, 8, 4);
            check.due("least " + least[at], store.order(0, 99, least[at], true), got[at]);
        }
        ShelfStages longest = Stores.withGood(1, 60);
        longest.bring(0, 2, 60);
        longest.bring(0, 2, 59);
        check.due("least 60", longest.order(0, 9, 60, false), 2);
        longest.pass(1);
        check.due("the day after", longest.order(0, 9, 60, false), 0);
    }

    private static void rulesForOneBatchEach() {
        Check check = new Check("the rule, and of several the lowest number");
        // Days left, and the batches in their turn by each rule. Prices: 5 and more 100, 4 and 5
        // days 80, 2 and 3 days 60, 1 day 30; so 6 and 10 days have one price.
        int[] left = {10, 6, 5, 1, 5, 6, 10, 1};
        int[][] turns = {{3, 7, 2, 4, 1, 5, 0, 6}, {0, 6, 1, 5, 2, 4, 3, 7}, {3, 7, 2, 4, 0, 1, 5, 6}};
        for (int rule = 0; rule < 3; rule++) {
            ShelfStages store = Stores.withGood(100, 10);
            store.set(0, rule);
            for (int days : left) {
                store.bring(0, 1, days);
            }
            store.order(0, 8, 0, false);
            for (int place = 0; place < 8; place++) {
                check.due("rule " + rule + ", place " + place, store.taken(0, place, 0), turns[rule][place]);
            }
        }
    }

    /** Of the batches of each substitute, as of those of its own good. */
    private static void rulesForSubstitutes() {
        Check check = new Check("the rule for the batches of a substitute");
        int[] left = {10, 6, 5, 1, 5, 6, 10, 1};
        int[][] turns = {{3, 7, 2, 4, 1, 5, 0, 6}, {0, 6, 1, 5, 2, 4, 3, 7}, {3, 7, 2, 4, 0, 1, 5, 6}};
        for (int rule = 0; rule < 3; rule++) {
            ShelfStages store = Stores.withGoods(3);
            store.addSubstitute(1, 2, 0);
            store.addSubstitute(1, 0, 1);
            store.set(0, rule);
            for (int days : left) {
                store.bring(2, 1, days);
            }
            for (int days : left) {
                store.bring(0, 1, days);
            }
            check.due("gets", store.order(1, 99, 0, true), 16);
            for (int place = 0; place < 8; place++) {
                String where = "rule " + rule + ", place " + place;
                check.due(where + ", first substitute", store.taken(0, place, 0), turns[rule][place]);
                check.due(where + ", second substitute", store.taken(0, 8 + place, 0), 8 + turns[rule][place]);
            }
        }
    }

    /** At most 100 cents a unit are due for each of these batches, but their prices stay apart. */
    private static void ruleOfADearerSubstitute() {
        Check check = new Check("the lowest price of a unit of a dearer substitute");
        ShelfStages store = Stores.withGood(100, 10);
        store.addGood(1000, 10);
        store.addSubstitute(0, 1, 0);
        store.set(0, 2);
        int[] left = {10, 4, 1, 2, 9};
        for (int days : left) {
            store.bring(1, 1, days);
        }
        check.due("due", store.wouldGet(0, 5, 0, true, 3), 500);
        store.order(0, 5, 0, true);
        int[] turns = {2, 3, 1, 0, 4};
        for (int place = 0; place < 5; place++) {
            check.due("place " + place, store.taken(0, place, 0), turns[place]);
        }
    }

    private static void pricesWithinACent() {
        Check check = new Check("the lowest price of a unit, in floats");
        ShelfStages store = Stores.withGood(1, 10);
        store.set(0, 2);
        int[] left = {10, 4, 2, 1};
        for (int days : left) {
            store.bring(0, 1, days);
        }
        store.order(0, 4, 0, false);
        for (int place = 0; place < 4; place++) {
            check.due("place " + place, store.taken(0, place, 0), 3 - place);
        }
    }

    private static void capOfDearerSubstitutes() {
        Check check = new Check("at most the price of the good of the order");
        int[] prices = {99, 100, 101, 125, 126, 9999};
        int[] fresh = {99, 100, 100, 100, 100, 100};
        // 20 percent off: 125 comes to 100.0f, which is no more than the price.
        int[] markedDown = {79, 80, 80, 100, 100, 100};
        for (int at = 0; at < prices.length; at++) {
            check.due(prices[at] + " cents", dueForSubstitute(prices[at], 10), fresh[at]);
            check.due(prices[at] + " cents, marked down", dueForSubstitute(prices[at], 5), markedDown[at]);
        }
    }

    private static int dueForSubstitute(int price, int left) {
        ShelfStages store = Stores.withGood(100, 10);
        store.addGood(price, 10);
        store.addSubstitute(0, 1, 0);
        store.bring(1, 1, left);
        store.order(0, 1, 0, true);
        return store.orderTold(0, 7);
    }

    private static void capIsOfTheOrderedGood() {
        Check check = new Check("the cap is the price of the good of the order");
        ShelfStages store = Stores.withGood(10, 10);
        store.addGood(300, 10);
        store.addGood(200, 10);
        store.addSubstitute(2, 1, 0);
        store.addSubstitute(2, 0, 1);
        store.bring(1, 1, 10);
        store.bring(0, 1, 10);
        check.due("200 and 10", store.wouldGet(2, 2, 0, true, 3), 210);
        store.setPrice(2, 301);
        check.due("300 and 10", store.wouldGet(2, 2, 0, true, 3), 310);
        check.due("of its own good", store.wouldGet(1, 1, 0, true, 3), 300);
        store.setPrice(2, 1);
        store.order(2, 2, 0, true);
        check.due("1 and 1", store.orderTold(0, 7), 2);
        check.due("brought by the dearer one", store.batch(0, 11), 1);
        check.dueFloat("its price as it is told", store.unitPrice(0), 300.0f);
    }

    private static void rebateOfTheSum() {
        Check check = new Check("a rebate is taken off the sum");
        ShelfStages store = Stores.withGood(3, 10);
        store.setRebate(Stores.bits(30.0f));
        store.bring(0, 1, 10);
        store.bring(0, 1, 10);
        // Off each batch nothing would be left of 0.9; off the sum, 1 of 1.8.
        check.due("3 and 3 less 30 percent", store.wouldGet(0, 2, 0, false, 3), 5);
        store.order(0, 2, 0, false);
        check.due("due", store.orderTold(0, 7), 5);
        check.due("due for all", store.count(13), 5);
        check.due("brought", store.batch(0, 11) + store.batch(1, 11), 6);
        check.dueFloat("price of a unit", store.unitPrice(0), 3.0f);
        store.setRebate(0);
        check.due("due as it was", store.orderTold(0, 7), 5);
        ShelfStages most = Stores.withGood(9999, 60);
        most.bring(0, 999, 60);
        most.setRebate(Stores.bits(30.0f));
        most.order(0, 999, 60, false);
        check.due("the greatest sum less 30 percent", most.orderTold(0, 7), 9989001 - 2996700);
    }

    private static void ordersThatGetNone() {
        Check check = new Check("an order that gets none is refused, but counts");
        ShelfStages store = Stores.withBatches(1, 10);
        check.due("none", store.order(0, 999, 60, true), 0);
        check.due("refused", store.count(12), 1);
        check.due("one", store.order(0, 999, 0, true), 1);
        check.due("still one refused", store.count(12), 1);
        check.due("none again", store.order(0, 1, 0, true), 0);
        check.due("two refused", store.count(12), 2);
        check.due("orders", store.count(3), 3);
        check.due("short", store.count(11), 999 + 998 + 1);
        check.due("states", store.count(17), 4);
        check.due("events of the refused ones", store.event(2, 0), NONE);
        check.due("due", store.orderTold(2, 7), 0);
    }
}
