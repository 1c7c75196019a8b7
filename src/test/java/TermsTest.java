/** What stands under 'Terms' in the document: numbers, goods, batches and stages at their borders. */
public final class TermsTest {
    private static final int FULL = Stores.FULL;

    public static void main(String[] args) {
        eachOperationIsRoundedByItself();
        whatIsBehindThePointIsDropped();
        listsOfSubstitutes();
        fortyBatchesEver();
        eachUnitHasOneWay();
        stagesOfAllDaysLeft();
        stageWithoutDays();
        neighbouringShares();
        Check.end();
    }

    private static void eachOperationIsRoundedByItself() {
        Check check = new Check("each operation in floats, rounded by itself");
        ShelfStages store = Stores.withGood(38, 10);
        store.setStage(1, 50, Stores.bits(7.7f));
        store.bring(0, 1, 5);
        check.dueFloat("38 less 7.7 percent", store.unitPrice(0), 35.073997f);
        // 1.0f - 6.7f / 100.0f is 0.93299997f; in doubles it would come to 0.933f.
        store.setPrice(0, 999);
        store.setStage(1, 50, Stores.bits(6.7f));
        check.dueFloat("999 less 6.7 percent", store.unitPrice(0), 932.06696f);
        ShelfStages units = Stores.withGood(7, 10);
        units.bring(0, 30, 5);
        units.order(0, 30, 0, false);
        check.due("30 units at 7 less 20 percent", units.orderTold(0, 7), 168);
        ShelfStages sum = Stores.withGood(100, 10);
        sum.setRebate(Stores.bits(7.77f));
        sum.bring(0, 100, 10);
        sum.order(0, 100, 0, false);
        check.due("10000 less 7.77 percent", sum.orderTold(0, 7), 10000 - 777);
        // The product is 105084296.0f; the hundredth part of it, 1050842.96, is rounded to 1050843.0f.
        ShelfStages most = Stores.withGood(9999, 10);
        most.setRebate(Stores.bits(10.52f));
        most.bring(0, 999, 10);
        check.due("9989001 less 10.52 percent", most.wouldGet(0, 999, 0, false, 3), 9989001 - 1050843);
    }

    private static void whatIsBehindThePointIsDropped() {
        Check check = new Check("(int) drops what is behind the point");
        ShelfStages store = Stores.withGood(1, 10);
        store.setStage(1, 50, Stores.bits(0.1f));
        store.bring(0, 1, 5);
        store.bring(0, 1, 4);
        store.bring(0, 2, 3);
        check.due("0.999, 0.999 and 1.998", store.order(0, 4, 0, false), 4);
        check.due("due, by batches", store.orderTold(0, 7), 1);
        check.due("brought by 0", store.batch(0, 11), 0);
        check.due("brought by 2", store.batch(2, 11), 1);
        ShelfStages rebate = Stores.withGood(199, 10);
        rebate.setRebate(Stores.bits(0.5f));
        rebate.bring(0, 1, 10);
        check.due("199 less 0.995", rebate.wouldGet(0, 1, 0, false, 3), 199);
    }

    private static void listsOfSubstitutes() {
        Check check = new Check("at most 4 substitutes, the best one first");
        ShelfStages store = Stores.withGoods(12);
        int[] list = {11, 3, 7, 1};
        for (int place = 0; place < 4; place++) {
            check.due("substitutes then", store.addSubstitute(0, list[place], place), place + 1);
            store.bring(list[place], 2, 5);
        }
        check.due("the fifth", store.addSubstitute(0, 2, 4), FULL);
        store.order(0, 8, 0, true);
        for (int place = 0; place < 4; place++) {
            check.due("place " + place, store.taken(0, place, 0), place);
            check.due("not the other way round", store.good(list[place], 2), 0);
        }
        check.due("room once more", store.removeSubstitute(0, 3), 1);
        check.due("the fourth", store.addSubstitute(0, 2, 0), 4);
        check.due("lists of one good in several", store.addSubstitute(11, 2, 0), 1);
    }

    private static void fortyBatchesEver() {
        Check check = new Check("at most 40 batches ever");
        ShelfStages store = Stores.withBatches(1, 10, 1, 1, 1, 2, 1, 1);
        for (int batch = 4; batch < 40; batch++) {
            store.bring(0, 1, 1);
        }
        store.breakUnits(0, 1);
        store.order(0, 30, 0, false);
        store.pass(1);
        store.recall(0);
        check.due("on the shelf", store.count(4), 0);
        check.due("bring", store.bring(0, 1, 1), FULL);
        Stores.withText(store, "0x1");
        check.due("readDelivery", store.readDelivery(), FULL);
        check.due("batches so far", store.count(2), 40);
        check.due("of the good", store.good(0, 4), 40);
        check.due("last batch", store.batch(39, 1), 1);
    }

    private static void eachUnitHasOneWay() {
        Check check = new Check("units on the shelf, sold, given away and wasted");
        ShelfStages store = Stores.busy();
        store.recall(1);
        int came = 0;
        for (int batch = 0; batch < 5; batch++) {
            int gone = store.batch(batch, 4) + store.batch(batch, 5) + store.batch(batch, 6);
            check.due("of " + batch, store.batch(batch, 3) + gone, store.batch(batch, 1));
            int causes = store.batch(batch, 7) + store.batch(batch, 8) + store.batch(batch, 9);
            check.due("causes of " + batch, causes, store.batch(batch, 6));
            came += store.batch(batch, 1);
        }
        check.due("of all", store.count(4) + store.count(5) + store.count(6) + store.count(7), came);
        check.due("causes of all", store.count(8) + store.count(9) + store.count(10), store.count(7));
    }

    private static void stagesOfAllDaysLeft() {
        int[][] shares = {{100, 50, 25, 10}, {100, 99, 98, 97}, {100, 3, 2, 1}, {100, 2, 1, 0},
            {100, 67, 34, 33}};
        for (int[] each : shares) {
            for (int life = 1; life <= 60; life++) {
                stagesOfDaysLeft(each, life);
            }
        }
    }

    private static void stagesOfDaysLeft(int[] shares, int life) {
        Check check = new Check("the greatest stage of " + life + " days with the last share " + shares[3]);
        ShelfStages store = Stores.withGood(100, life);
        setShares(store, shares);
        for (int left = 1; left <= life; left++) {
            int stage = 3;
            while (left * 100 > shares[stage] * life) {
                stage--;
            }
            store.bring(0, 1, left);
            check.due(left + " days left", store.batch(0, 10), stage);
            store.undo();
        }
    }

    private static void setShares(ShelfStages store, int[] shares) {
        int bits = Stores.bits(50.0f);
        boolean isGreater = shares[1] > store.stage(1, 0);
        for (int step = 1; step <= 3; step++) {
            int stage = isGreater ? step : 4 - step;
            store.setStage(stage, shares[stage], bits);
        }
    }

    private static void stageWithoutDays() {
        Check check = new Check("the stage of a batch without days left");
        ShelfStages store = Stores.withBatches(1, 1, 1, 2);
        store.setStage(3, 0, Stores.bits(100.0f));
        check.due("one day left", store.batch(0, 10), 2);
        store.pass(1);
        check.due("none left", store.batch(0, 10), 3);
        check.dueFloat("its price", store.unitPrice(0), 0.0f);
        check.due("batches with units in the stage 3", store.stage(3, 1), 0);
        check.due("units in the stage 3", store.stage(3, 2), 0);
    }

    private static void neighbouringShares() {
        Check check = new Check("the shares fall from stage to stage");
        ShelfStages store = new ShelfStages();
        int zero = Stores.bits(0.0f);
        check.due("99", store.setStage(1, 99, zero), 50);
        check.due("98", store.setStage(2, 98, zero), 25);
        check.due("97", store.setStage(3, 97, zero), 10);
        check.due("3 as 2", store.setStage(3, 98, zero), Stores.BAD_VALUE);
        check.due("2 as 3", store.setStage(2, 97, zero), Stores.BAD_VALUE);
        check.due("2 as 1", store.setStage(2, 99, zero), Stores.BAD_VALUE);
        check.due("1 as 2", store.setStage(1, 98, zero), Stores.BAD_VALUE);
        check.due("a markdown alone, no room for another share",
            store.setStage(2, 98, Stores.bits(100.0f)), 98);
        check.dueFloat("that of the one before it need not be less", store.markdown(1), 0.0f);
        check.dueFloat("that of the one behind it need not be greater", store.markdown(3), 0.0f);
    }
}
