/**
 * Runs of 512 calls by chance, the same ones each time, on the class and on the model; and after
 * some of them all that is told. Looking at all makes more calls than the 512 that the document
 * speaks of; the class knows no such bound.
 */
public final class ModelTest {
    private static final int RUNS = 400;
    private static final int CALLS = 512;
    private static final Check CHECK = new Check("model");
    private static final float[] PERCENTS = {0.0f, -0.0f, 0.1f, 1.0e-41f, 3.3333333f, 12.5f, 20.0f,
        29.999998f, 30.0f, 30.000002f, 40.0f, 66.666664f, 70.0f, 99.99999f, 100.0f, 100.00001f,
        -1.0f, Float.NaN, Float.POSITIVE_INFINITY};
    private static final String SIGNS = "0123456789x/,  X:.";

    private final ShelfStages store = new ShelfStages();
    private final Model model = new Model();
    private long seed;
    private boolean isGentle;
    private String run;

    private ModelTest(int number) {
        seed = number * 7919L + 17;
        isGentle = number % 4 != 0;
        run = "run " + number + ", ";
    }

    public static void main(String[] args) {
        for (int number = 0; number < RUNS; number++) {
            ModelTest test = new ModelTest(number);
            for (int call = 0; call < CALLS; call++) {
                test.run = "run " + number + ", call " + call + ", ";
                test.act();
                if (call % 37 == 0) {
                    test.lookAtAll();
                }
            }
            test.lookAtAll();
        }
        Check.end();
    }

    /** 0 to bound - 1, by a linear congruence. */
    private int below(int bound) {
        seed = seed * 6364136223846793005L + 1442695040888963407L;
        return (int) ((seed >>> 33) % bound);
    }

    /** A number from its range, at times one at its borders or beyond them. */
    private int from(int least, int most) {
        int chance = below(isGentle ? 60 : 12);
        switch (chance) {
            case 0: return least - 1;
            case 1: return most + 1;
            case 2: return Stores.WILD[below(Stores.WILD.length)];
            case 3: return least;
            case 4: return most;
            default: return least + below(most - least + 1);
        }
    }

    private int good() {
        return from(0, Math.max(0, model.now.goods.size() - 1));
    }

    private int batch() {
        return from(0, Math.max(0, model.now.batches.size() - 1));
    }

    private int order() {
        return from(0, Math.max(0, model.now.orders.size() - 1));
    }

    private int units() {
        return below(3) == 0 ? from(1, 999) : from(1, 60);
    }

    private int percent() {
        return below(3) == 0 ? Stores.bits(PERCENTS[below(PERCENTS.length)])
            : Stores.bits(below(10100) / 100.0f);
    }

    private int leftOf(int good) {
        boolean isThere = good >= 0 && good < model.now.goods.size();
        return from(1, isThere ? model.now.goods.get(good).life : 60);
    }

    private void due(String call, int got, int want) {
        CHECK.due(run + call, got, want);
    }

    private void act() {
        int chance = below(100);
        if (chance < 12) {
            settle();
        } else if (chance < 24) {
            int good = good();
            int units = units();
            int left = leftOf(good);
            due("bring", store.bring(good, units, left), model.bring(good, units, left));
        } else if (chance < 44) {
            buy();
        } else if (chance < 62) {
            lose();
        } else if (chance < 68) {
            write();
            due("readDelivery", store.readDelivery(), model.readDelivery());
        } else if (chance < 75) {
            goBack();
        } else {
            ask();
        }
    }

    private void settle() {
        int good = good();
        int other = good();
        int place = from(0, 3);
        int price = below(2) == 0 ? from(1, 9999) : from(1, 150);
        int life = from(1, below(2) == 0 ? 60 : 12);
        int stage = from(1, 3);
        int share = below(2) == 0 ? from(0, 99) : store.stage(stage, 0);
        int percent = percent();
        int what = from(0, 2);
        int value = from(0, what == 2 ? 99 : what == 1 ? 4 : 2);
        switch (below(9)) {
            case 0: case 1:
                due("addGood", store.addGood(price, life), model.addGood(price, life));
                break;
            case 2:
                due("setPrice", store.setPrice(good, price), model.setPrice(good, price));
                break;
            case 3: case 4:
                due("addSubstitute", store.addSubstitute(good, other, place),
                    model.addSubstitute(good, other, place));
                break;
            case 5:
                due("removeSubstitute", store.removeSubstitute(good, place),
                    model.removeSubstitute(good, place));
                break;
            case 6:
                due("setStage", store.setStage(stage, share, percent),
                    model.setStage(stage, share, percent));
                break;
            case 7:
                due("set", store.set(what, value), model.set(what, value));
                break;
            default:
                due("setRebate", store.setRebate(percent), model.setRebate(percent));
                break;
        }
    }

    private void buy() {
        int good = good();
        int units = units();
        int least = below(2) == 0 ? 0 : from(0, below(2) == 0 ? 60 : 9);
        boolean accepts = below(4) != 0;
        for (int what = -1; what <= 4; what++) {
            due("wouldGet " + what, store.wouldGet(good, units, least, accepts, what),
                model.wouldGet(good, units, least, accepts, what));
        }
        if (below(3) == 0) {
            due("order", store.order(good, units, least, accepts),
                model.order(good, units, least, accepts));
        }
    }

    private void lose() {
        int batch = batch();
        int units = units();
        int days = below(8) == 0 ? from(1, 60) : from(1, 3);
        int good = good();
        int chance = below(20);
        if (chance < 8) {
            due("breakUnits", store.breakUnits(batch, units), model.breakUnits(batch, units));
        } else if (chance < 18) {
            due("pass", store.pass(days), model.pass(days));
        } else {
            due("recall", store.recall(good), model.recall(good));
        }
    }

    private void write() {
        if (below(4) != 0) {
            due("clearText", store.clearText(), model.clearText());
        }
        StringBuilder text = new StringBuilder();
        int entries = 1 + below(below(6) == 0 ? 16 : 3);
        for (int entry = 0; entry < entries; entry++) {
            int good = below(12) == 0 ? below(200) : below(1 + model.now.goods.size());
            text.append(entry == 0 ? "" : ",").append(good).append('x').append(below(120));
            if (below(2) == 0) {
                text.append('/').append(below(14));
            }
        }
        if (below(2) == 0) {
            text.setCharAt(below(text.length()), SIGNS.charAt(below(SIGNS.length())));
        }
        for (int at = 0; at < text.length(); at++) {
            char sign = below(300) == 0 ? (char) below(65536) : text.charAt(at);
            due("type", store.type(sign), model.type(sign));
        }
    }

    private void goBack() {
        int chance = below(8);
        if (chance < 5) {
            due("undo", store.undo(), model.undo());
        } else if (chance < 7) {
            due("keep", store.keep(), model.keep());
        } else {
            due("restore", store.restore(), model.restore());
        }
    }

    private void ask() {
        int number = below(2) == 0 ? good() : batch();
        int order = order();
        int what = from(0, 12);
        int stage = from(1, 3);
        int days = from(1, 60);
        boolean isBatch = below(2) == 0;
        int sort = from(0, 1);
        due("good", store.good(number, what), model.good(number, what));
        due("substitute", store.substitute(number, stage), model.substitute(number, stage));
        due("batch", store.batch(number, what), model.batch(number, what));
        due("stage", store.stage(stage, what), model.stage(stage, what));
        due("orderTold", store.orderTold(order, what), model.orderTold(order, what));
        due("taken", store.taken(order, stage, what), model.taken(order, stage, what));
        due("wouldExpire", store.wouldExpire(number, days), model.wouldExpire(number, days));
        due("stageIn", store.stageIn(number, stage), model.stageIn(number, stage));
        due("event", store.event(order, what), model.event(order, what));
        due("takes", store.takes(sort, isBatch, number), model.takes(sort, isBatch, number));
        due("count", store.count(what), model.count(what));
        CHECK.dueFloat(run + "unitPrice", store.unitPrice(number), model.unitPrice(number));
        CHECK.dueFloat(run + "markdown", store.markdown(stage), model.markdown(stage));
    }

    private void lookAtAll() {
        for (int what = -1; what <= 19; what++) {
            due("count " + what, store.count(what), model.count(what));
        }
        for (int number = 0; number <= 40; number++) {
            for (int what = 0; what <= 11; what++) {
                due("good", store.good(number, what), model.good(number, what));
                due("batch", store.batch(number, what), model.batch(number, what));
                due("stage", store.stage(number, what), model.stage(number, what));
                due("orderTold", store.orderTold(number, what), model.orderTold(number, what));
                due("event", store.event(number, what), model.event(number, what));
                due("taken", store.taken(number, what, 0), model.taken(number, what, 0));
                due("its units", store.taken(number, what, 1), model.taken(number, what, 1));
                due("substitute", store.substitute(number, what), model.substitute(number, what));
            }
            for (int stage = 1; stage <= 3; stage++) {
                due("stageIn", store.stageIn(number, stage), model.stageIn(number, stage));
            }
            int days = 1 + below(60);
            due("wouldExpire", store.wouldExpire(number, days), model.wouldExpire(number, days));
            CHECK.dueFloat(run + "unitPrice", store.unitPrice(number), model.unitPrice(number));
            CHECK.dueFloat(run + "markdown", store.markdown(number), model.markdown(number));
        }
    }
}
