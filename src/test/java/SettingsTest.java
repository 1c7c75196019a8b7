/** Promises 1 to 8: a new object, goods and settings. */
public final class SettingsTest {
    private static final int UNKNOWN = Stores.UNKNOWN;
    private static final int BAD_VALUE = Stores.BAD_VALUE;
    private static final int FULL = Stores.FULL;
    private static final int NOT_POSSIBLE = Stores.NOT_POSSIBLE;
    private static final int NONE = Stores.NONE;

    public static void main(String[] args) {
        promise1NewObject();
        promise2AddGood();
        promise3SetPrice();
        promise4AddSubstitute();
        promise4Errors();
        promise5RemoveSubstitute();
        promise5LastGood();
        promise6SetStage();
        promise6Shares();
        promise6Markdowns();
        promise7Set();
        promise8SetRebate();
        Check.end();
    }

    private static void promise1NewObject() {
        Check check = new Check("promise 1");
        ShelfStages store = new ShelfStages();
        for (int what = 0; what <= 18; what++) {
            int due = what == 15 ? 4 : what == 16 ? 50 : 0;
            check.due("count(" + what + ")", store.count(what), due);
        }
        int[] shares = {100, 50, 25, 10};
        float[] markdowns = {0.0f, 20.0f, 40.0f, 70.0f};
        for (int stage = 0; stage < 4; stage++) {
            check.due("share of " + stage, store.stage(stage, 0), shares[stage]);
            check.due("batches in " + stage, store.stage(stage, 1), 0);
            check.due("units in " + stage, store.stage(stage, 2), 0);
            check.dueFloat("markdown of " + stage, store.markdown(stage), markdowns[stage]);
        }
        check.due("good(0, 0)", store.good(0, 0), UNKNOWN);
        check.due("batch(0, 0)", store.batch(0, 0), UNKNOWN);
        check.due("orderTold(0, 0)", store.orderTold(0, 0), UNKNOWN);
        check.due("event(0, 0)", store.event(0, 0), NONE);
        check.due("undo()", store.undo(), NONE);
        check.due("restore()", store.restore(), NONE);
    }

    private static void promise2AddGood() {
        Check check = new Check("promise 2");
        ShelfStages store = new ShelfStages();
        for (int wild : new int[] {0, -1, 10000, Integer.MIN_VALUE, Integer.MAX_VALUE}) {
            check.due("price " + wild, store.addGood(wild, 1), BAD_VALUE);
        }
        for (int wild : new int[] {0, -1, 61, Integer.MIN_VALUE, Integer.MAX_VALUE}) {
            check.due("life " + wild, store.addGood(1, wild), BAD_VALUE);
        }
        check.due("goods after errors", store.count(1), 0);
        check.due("states after errors", store.count(17), 0);
        check.due("least good", store.addGood(1, 1), 0);
        check.due("greatest good", store.addGood(9999, 60), 1);
        check.due("price of 0", store.good(0, 0), 1);
        check.due("life of 0", store.good(0, 1), 1);
        check.due("price of 1", store.good(1, 0), 9999);
        check.due("life of 1", store.good(1, 1), 60);
        check.due("substitutes of 1", store.good(1, 2), 0);
        check.due("states", store.count(17), 2);
        for (int good = 2; good < 12; good++) {
            check.due("good " + good, store.addGood(5, 5), good);
        }
        check.due("bad 13th good", store.addGood(0, 5), BAD_VALUE);
        check.due("13th good", store.addGood(5, 5), FULL);
        check.due("goods", store.count(1), 12);
        store.addSubstitute(11, 1, 0);
        store.undo();
        store.undo();
        check.due("a number again", store.addGood(6, 6), 11);
        check.due("its substitutes", store.good(11, 2), 0);
    }

    private static void promise3SetPrice() {
        Check check = new Check("promise 3");
        ShelfStages store = Stores.withBatches(5, 10);
        for (int wild : Stores.WILD) {
            check.due("good " + wild, store.setPrice(wild, 0), UNKNOWN);
            check.due("price " + wild, store.setPrice(0, wild), BAD_VALUE);
        }
        check.due("next good", store.setPrice(1, 5), UNKNOWN);
        check.due("price 0", store.setPrice(0, 0), BAD_VALUE);
        check.due("same price", store.setPrice(0, 100), NONE);
        check.due("states", store.count(17), 2);
        check.due("9999", store.setPrice(0, 9999), 100);
        check.due("1", store.setPrice(0, 1), 9999);
        check.due("price", store.good(0, 0), 1);
        check.dueFloat("price of a unit", store.unitPrice(0), 1.0f);
        check.due("undo", store.undo(), 3);
        check.due("price then", store.good(0, 0), 9999);
    }

    private static void promise4AddSubstitute() {
        Check check = new Check("promise 4");
        ShelfStages store = Stores.withGoods(7);
        check.due("first", store.addSubstitute(0, 3, 0), 1);
        check.due("ahead of it", store.addSubstitute(0, 2, 0), 2);
        check.due("behind it", store.addSubstitute(0, 4, 2), 3);
        check.due("between", store.addSubstitute(0, 1, 1), 4);
        int[] list = {2, 1, 3, 4};
        for (int place = 0; place < 4; place++) {
            check.due("place " + place, store.substitute(0, place), list[place]);
        }
        check.due("other list", store.good(3, 2), 0);
        check.due("the other way round", store.addSubstitute(3, 0, 0), 1);
        check.due("list of the good behind", store.good(1, 2), 0);
        check.due("undo", store.undo(), 3);
        check.due("undo", store.undo(), 2);
        check.due("substitutes", store.good(0, 2), 3);
        check.due("place 1 then", store.substitute(0, 1), 3);
    }

    private static void promise4Errors() {
        Check check = new Check("promise 4");
        ShelfStages store = Stores.withGoods(7);
        for (int wild : Stores.WILD) {
            check.due("good " + wild, store.addSubstitute(wild, 1, 0), UNKNOWN);
            check.due("substitute " + wild, store.addSubstitute(1, wild, -1), UNKNOWN);
            check.due("the same " + wild, store.addSubstitute(wild, wild, 0), UNKNOWN);
            check.due("place " + wild, store.addSubstitute(0, 1, wild), BAD_VALUE);
        }
        check.due("good 7", store.addSubstitute(7, 1, 0), UNKNOWN);
        check.due("substitute 7", store.addSubstitute(1, 7, 0), UNKNOWN);
        check.due("itself", store.addSubstitute(1, 1, 0), BAD_VALUE);
        check.due("place 1 of none", store.addSubstitute(0, 1, 1), BAD_VALUE);
        store.addSubstitute(0, 1, 0);
        check.due("in the list, bad place", store.addSubstitute(0, 1, 2), BAD_VALUE);
        check.due("in the list", store.addSubstitute(0, 1, 1), NOT_POSSIBLE);
        store.addSubstitute(0, 2, 0);
        store.addSubstitute(0, 3, 0);
        store.addSubstitute(0, 4, 0);
        check.due("in the full list", store.addSubstitute(0, 1, 4), NOT_POSSIBLE);
        check.due("full, bad place", store.addSubstitute(0, 5, 5), BAD_VALUE);
        check.due("full", store.addSubstitute(0, 5, 4), FULL);
        check.due("full, place 0", store.addSubstitute(0, 5, 0), FULL);
        check.due("substitutes", store.good(0, 2), 4);
    }

    private static void promise5RemoveSubstitute() {
        Check check = new Check("promise 5");
        ShelfStages store = Stores.withGoods(6);
        for (int good = 1; good <= 4; good++) {
            store.addSubstitute(0, good, good - 1);
        }
        for (int wild : Stores.WILD) {
            int due = wild < 0 ? BAD_VALUE : NONE;
            check.due("good " + wild, store.removeSubstitute(wild, -1), UNKNOWN);
            check.due("place " + wild, store.removeSubstitute(0, wild), due);
        }
        check.due("good 6", store.removeSubstitute(6, 0), UNKNOWN);
        check.due("place 4", store.removeSubstitute(0, 4), NONE);
        check.due("empty list", store.removeSubstitute(1, 0), NONE);
        check.due("between", store.removeSubstitute(0, 1), 2);
        check.due("last", store.removeSubstitute(0, 2), 4);
        check.due("behind the last", store.removeSubstitute(0, 2), NONE);
        check.due("first", store.removeSubstitute(0, 0), 1);
        check.due("the one left", store.substitute(0, 0), 3);
        check.due("how many", store.good(0, 2), 1);
        check.due("undo", store.undo(), 3);
        check.due("first then", store.substitute(0, 0), 1);
        check.due("it may come again", store.addSubstitute(0, 4, 1), 3);
    }

    private static void promise5LastGood() {
        Check check = new Check("promise 5");
        ShelfStages store = Stores.withGoods(12);
        for (int good = 10; good > 6; good--) {
            store.addSubstitute(11, good, 0);
        }
        for (int good = 7; good < 11; good++) {
            check.due("first of the full list", store.removeSubstitute(11, 0), good);
        }
        check.due("none left", store.removeSubstitute(11, 0), NONE);
    }

    private static void promise6SetStage() {
        Check check = new Check("promise 6");
        ShelfStages store = new ShelfStages();
        for (int wild : Stores.WILD) {
            check.due("stage " + wild, store.setStage(wild, 30, 0), UNKNOWN);
        }
        check.due("stage 0", store.setStage(0, 200, -1), UNKNOWN);
        check.due("stage 4", store.setStage(4, 5, 0), UNKNOWN);
        check.due("the same", store.setStage(1, 50, Stores.bits(20.0f)), NONE);
        check.due("states", store.count(17), 0);
        check.due("share alone", store.setStage(1, 51, Stores.bits(20.0f)), 50);
        check.due("markdown alone", store.setStage(1, 51, Stores.bits(30.0f)), 51);
        check.due("share", store.stage(1, 0), 51);
        check.dueFloat("markdown", store.markdown(1), 30.0f);
        check.due("states", store.count(17), 2);
        store.undo();
        check.dueFloat("markdown then", store.markdown(1), 20.0f);
        store.undo();
        check.due("share then", store.stage(1, 0), 50);
    }

    private static void promise6Shares() {
        Check check = new Check("promise 6");
        int none = Stores.bits(0.0f);
        ShelfStages store = new ShelfStages();
        for (int wild : Stores.WILD) {
            for (int stage = 1; stage <= 3; stage++) {
                check.due("share " + wild, store.setStage(stage, wild, none), BAD_VALUE);
            }
        }
        check.due("1 as 0", store.setStage(1, 100, none), BAD_VALUE);
        check.due("1 as 2", store.setStage(1, 25, none), BAD_VALUE);
        check.due("2 as 1", store.setStage(2, 50, none), BAD_VALUE);
        check.due("2 as 3", store.setStage(2, 10, none), BAD_VALUE);
        check.due("3 as 2", store.setStage(3, 25, none), BAD_VALUE);
        check.due("3 below 0", store.setStage(3, -1, none), BAD_VALUE);
        check.due("1 to 99", store.setStage(1, 99, none), 50);
        check.due("1 to 26", store.setStage(1, 26, none), 99);
        check.due("2 to 11", store.setStage(2, 11, none), 25);
        check.due("3 to 0", store.setStage(3, 0, none), 10);
        check.due("2 to 1", store.setStage(2, 1, none), 11);
        check.due("2 to 0", store.setStage(2, 0, none), BAD_VALUE);
        check.due("2 to 25", store.setStage(2, 25, none), 1);
        check.due("3 to 24", store.setStage(3, 24, none), 0);
    }

    private static void promise6Markdowns() {
        Check check = new Check("promise 6");
        ShelfStages store = new ShelfStages();
        float[] bad = {-0.0f, -1.0f, -Float.MIN_VALUE, Math.nextUp(100.0f), 101.0f,
            Float.POSITIVE_INFINITY, Float.NEGATIVE_INFINITY, Float.MAX_VALUE};
        for (float markdown : bad) {
            check.due("markdown " + markdown, store.setStage(2, 25, Stores.bits(markdown)), BAD_VALUE);
        }
        int[] noNumbers = {0x7FC00000, 0x7F800001, 0x7FFFFFFF, 0xFFC00000, 0xFF800001, -1};
        for (int bits : noNumbers) {
            check.due("markdown by bits " + bits, store.setStage(2, 25, bits), BAD_VALUE);
        }
        float[] fine = {0.0f, Float.MIN_VALUE, 3 * Float.MIN_VALUE, Float.MIN_NORMAL,
            Math.nextDown(Float.MIN_NORMAL), Math.nextUp(Float.MIN_NORMAL), 1.0e-40f, 1.0e-20f,
            0.1f, 0.99999994f, 1.0f, 1.0000001f, 12.5f, 33.333332f, 63.999996f, 64.0f,
            99.99999f, 100.0f};
        for (float markdown : fine) {
            check.due("markdown " + markdown, store.setStage(2, 25, Stores.bits(markdown)), 25);
            check.dueFloat("markdown told", store.markdown(2), markdown);
            check.due("again", store.setStage(2, 25, Stores.bits(markdown)), NONE);
        }
    }

    private static void promise7Set() {
        Check check = new Check("promise 7");
        ShelfStages store = new ShelfStages();
        for (int wild : Stores.WILD) {
            check.due("what " + wild, store.set(wild, 1), BAD_VALUE);
            for (int what = 0; what <= 2; what++) {
                check.due("value " + wild, store.set(what, wild), BAD_VALUE);
            }
        }
        check.due("what 3", store.set(3, 1), BAD_VALUE);
        check.due("rule 3", store.set(0, 3), BAD_VALUE);
        check.due("donation stage 0", store.set(1, 0), BAD_VALUE);
        check.due("donation stage 5", store.set(1, 5), BAD_VALUE);
        check.due("most 1000", store.set(2, 1000), BAD_VALUE);
        check.due("same rule", store.set(0, 0), NONE);
        check.due("same stage", store.set(1, 4), NONE);
        check.due("same most", store.set(2, 50), NONE);
        check.due("states", store.count(17), 0);
        check.due("rule 2", store.set(0, 2), 0);
        check.due("rule 1", store.set(0, 1), 2);
        check.due("donation stage 1", store.set(1, 1), 4);
        check.due("most 999", store.set(2, 999), 50);
        check.due("most 0", store.set(2, 0), 999);
        check.due("rule", store.count(14), 1);
        check.due("donation stage", store.count(15), 1);
        check.due("most", store.count(16), 0);
        check.due("states", store.count(17), 4);
        store.undo();
        check.due("most then", store.count(16), 999);
    }

    private static void promise8SetRebate() {
        Check check = new Check("promise 8");
        ShelfStages store = Stores.withBatches(999, 10);
        float[] bad = {-0.0f, -1.0f, -Float.MIN_VALUE, Math.nextUp(30.0f), 31.0f,
            Float.POSITIVE_INFINITY, Float.NEGATIVE_INFINITY};
        for (float rebate : bad) {
            check.due("rebate " + rebate, store.setRebate(Stores.bits(rebate)), BAD_VALUE);
        }
        for (int bits : new int[] {0x7FC00000, 0x7F800001, 0xFFC00000, -1, Integer.MIN_VALUE}) {
            check.due("rebate by bits " + bits, store.setRebate(bits), BAD_VALUE);
        }
        check.due("the same", store.setRebate(0), NONE);
        check.due("states", store.count(17), 2);
        check.due("30", store.setRebate(Stores.bits(30.0f)), 1);
        check.due("30 again", store.setRebate(Stores.bits(30.0f)), NONE);
        check.due("due at 30", store.wouldGet(0, 10, 0, false, 3), 700);
        check.due("least", store.setRebate(Stores.bits(Float.MIN_VALUE)), 1);
        check.due("due at the least", store.wouldGet(0, 10, 0, false, 3), 1000);
        check.due("undo", store.undo(), 3);
        check.due("due then", store.wouldGet(0, 10, 0, false, 3), 700);
        for (float rebate : new float[] {7.25f, 7.5f, Math.nextUp(7.5f), 7.5f}) {
            check.due("rebate " + rebate, store.setRebate(Stores.bits(rebate)), 1);
            check.due("again", store.setRebate(Stores.bits(rebate)), NONE);
        }
        check.due("0", store.setRebate(0), 1);
        check.due("due at 0", store.wouldGet(0, 10, 0, false, 3), 1000);
    }
}
