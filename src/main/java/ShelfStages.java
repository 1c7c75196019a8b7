/**
 * A store of perishable goods: batches that age through stages with markdowns, orders with
 * substitutes, donations, waste, deliveries read from a text, a history and a snapshot.
 *
 * All rows are made in the constructor and used again: no call makes an object.
 */
public final class ShelfStages {
    public static final int UNKNOWN = -1;
    public static final int BAD_VALUE = -2;
    public static final int FULL = -3;
    public static final int NOT_POSSIBLE = -4;
    public static final int NONE = -5;

    private static final int NO_ERROR = 0;
    private static final int TEXT_FAULT = -100;

    private static final int MAX_GOODS = 12;
    private static final int MAX_PRICE = 9999;
    private static final int MAX_LIFE = 60;
    private static final int MAX_SUBSTITUTES = 4;
    private static final int MAX_BATCHES = 40;
    private static final int MAX_ORDERS = 30;
    private static final int MAX_UNITS = 999;
    private static final int MAX_PASS = 60;
    private static final int LAST_DAY = 9999;
    private static final int MAX_TEXT = 60;
    private static final int MAX_EVENTS = 10;
    private static final int MAX_HISTORY = 4;
    private static final int STAGES = 4;

    // Each order empties every batch that it takes from, but perhaps its last one, and an empty
    // batch never fills again: so there are never more takes than batches and orders together.
    private static final int MAX_TAKES = MAX_BATCHES + MAX_ORDERS;

    private static final int RULE = 0;
    private static final int DONATION_STAGE = 1;
    private static final int DONATION_MOST = 2;

    private static final int MOST_DAYS_FIRST = 1;
    private static final int LOWEST_PRICE_FIRST = 2;

    private static final int CAUSES = 3;
    private static final int EXPIRED = 0;
    private static final int BROKEN = 1;
    private static final int RECALLED = 2;

    private static final int CAME = 0;
    private static final int SOLD = 1;
    private static final int GIVEN = 2;
    private static final int WASTED = 3;

    private static final int BITS_OF_30 = 0x41F00000;
    private static final int BITS_OF_100 = 0x42C80000;

    private final State now = new State();
    private final State snapshot = new State();
    private final State trial = new State();
    private final History history = new History();
    private final Filling filling = new Filling();
    private final Delivery delivery = new Delivery();
    private final char[] text = new char[MAX_TEXT];
    private int textLength;
    private boolean hasSnapshot;

    public ShelfStages() {
    }

    // ---- goods and settings

    public int addGood(int price, int life) {
        if (!within(price, 1, MAX_PRICE) || !within(life, 1, MAX_LIFE)) {
            return BAD_VALUE;
        }
        if (now.goods.size >= MAX_GOODS) {
            return FULL;
        }
        history.push(now);
        return now.goods.append(price, life);
    }

    public int setPrice(int good, int price) {
        if (!hasGood(good)) {
            return UNKNOWN;
        }
        if (!within(price, 1, MAX_PRICE)) {
            return BAD_VALUE;
        }
        int previous = now.goods.price[good];
        if (previous == price) {
            return NONE;
        }
        history.push(now);
        now.goods.price[good] = price;
        return previous;
    }

    public int addSubstitute(int good, int substitute, int place) {
        if (!hasGood(good) || !hasGood(substitute)) {
            return UNKNOWN;
        }
        Goods goods = now.goods;
        if (good == substitute || !within(place, 0, goods.listed[good])) {
            return BAD_VALUE;
        }
        if (goods.lists(good, substitute)) {
            return NOT_POSSIBLE;
        }
        if (goods.listed[good] >= MAX_SUBSTITUTES) {
            return FULL;
        }
        history.push(now);
        goods.insert(good, substitute, place);
        return goods.listed[good];
    }

    public int removeSubstitute(int good, int place) {
        int error = placeError(good, place);
        if (error != NO_ERROR) {
            return error;
        }
        history.push(now);
        return now.goods.removeFrom(good, place);
    }

    public int setStage(int stage, int share, int markdown) {
        if (!within(stage, 1, STAGES - 1)) {
            return UNKNOWN;
        }
        Stages stages = now.stages;
        if (!stages.hasRoomFor(stage, share) || !within(markdown, 0, BITS_OF_100)) {
            return BAD_VALUE;
        }
        int previous = stages.share[stage];
        float percent = floatOfBits(markdown);
        if (previous == share && stages.markdown[stage] == percent) {
            return NONE;
        }
        history.push(now);
        stages.share[stage] = share;
        stages.markdown[stage] = percent;
        return previous;
    }

    public int set(int what, int value) {
        if (!isSetting(what, value)) {
            return BAD_VALUE;
        }
        int previous = now.settings[what];
        if (previous == value) {
            return NONE;
        }
        history.push(now);
        now.settings[what] = value;
        return previous;
    }

    public int setRebate(int bits) {
        if (!within(bits, 0, BITS_OF_30)) {
            return BAD_VALUE;
        }
        float percent = floatOfBits(bits);
        if (now.rebate == percent) {
            return NONE;
        }
        history.push(now);
        now.rebate = percent;
        return 1;
    }

    // ---- what happens

    public int bring(int good, int units, int left) {
        if (!hasGood(good)) {
            return UNKNOWN;
        }
        if (!isSupply(good, units, left)) {
            return BAD_VALUE;
        }
        if (now.batches.size >= MAX_BATCHES) {
            return FULL;
        }
        history.push(now);
        return now.receive(good, units, left);
    }

    public int readDelivery() {
        int fault = delivery.read(text, textLength);
        if (fault != Delivery.NO_FAULT) {
            return TEXT_FAULT - fault;
        }
        int error = deliveryError();
        if (error != NO_ERROR) {
            return error;
        }
        history.push(now);
        for (int entry = 0; entry < delivery.size; entry++) {
            int good = delivery.goodIn(entry);
            now.receive(good, delivery.unitsIn(entry), leftIn(entry, good));
        }
        return delivery.size;
    }

    public int order(int good, int units, int least, boolean substitutes) {
        int error = wishError(good, units, least);
        if (error != NO_ERROR) {
            return error;
        }
        if (now.orders.size >= MAX_ORDERS) {
            return FULL;
        }
        history.push(now);
        now.orders.append(good, units, least, substitutes, now.day);
        filling.fill(now, good, units, least, substitutes);
        now.sell(filling);
        return filling.got;
    }

    public int breakUnits(int batch, int units) {
        if (!hasBatch(batch)) {
            return UNKNOWN;
        }
        if (!within(units, 1, MAX_UNITS)) {
            return BAD_VALUE;
        }
        if (now.batches.shelf[batch] < units) {
            return NOT_POSSIBLE;
        }
        history.push(now);
        now.waste(batch, units, BROKEN);
        return now.batches.shelf[batch];
    }

    public int recall(int good) {
        if (!hasGood(good)) {
            return UNKNOWN;
        }
        int units = now.batches.sumOfGood(now.batches.shelf, good);
        if (units == 0) {
            return NONE;
        }
        history.push(now);
        now.wasteGood(good);
        return units;
    }

    public int pass(int days) {
        if (!within(days, 1, MAX_PASS)) {
            return BAD_VALUE;
        }
        if (now.day + days > LAST_DAY) {
            return NOT_POSSIBLE;
        }
        history.push(now);
        return now.passDays(days);
    }

    // ---- texts

    public int type(char character) {
        if (textLength >= MAX_TEXT) {
            return FULL;
        }
        text[textLength] = character;
        textLength++;
        return textLength;
    }

    public int clearText() {
        int length = textLength;
        textLength = 0;
        return length;
    }

    // ---- history

    public int undo() {
        if (history.size == 0) {
            return NONE;
        }
        history.popInto(now);
        return history.size;
    }

    public int keep() {
        snapshot.copyFrom(now);
        hasSnapshot = true;
        return now.day;
    }

    public int restore() {
        if (!hasSnapshot) {
            return NONE;
        }
        history.push(now);
        now.copyFrom(snapshot);
        return now.day;
    }

    // ---- what is told

    public int good(int good, int what) {
        if (!hasGood(good)) {
            return UNKNOWN;
        }
        Batches batches = now.batches;
        switch (what) {
            case 0: return now.goods.price[good];
            case 1: return now.goods.life[good];
            case 2: return now.goods.listed[good];
            case 3: return batches.sumOfGood(batches.shelf, good);
            case 4: return batches.countOfGood(good);
            case 5: return batches.sumOfGood(batches.sold, good);
            case 6: return now.orders.gotForGood(good);
            default: return BAD_VALUE;
        }
    }

    public int substitute(int good, int place) {
        int error = placeError(good, place);
        if (error != NO_ERROR) {
            return error;
        }
        return now.goods.listedAt(good, place);
    }

    public int batch(int batch, int what) {
        if (!hasBatch(batch)) {
            return UNKNOWN;
        }
        Batches batches = now.batches;
        switch (what) {
            case 0: return batches.good[batch];
            case 1: return batches.came[batch];
            case 2: return batches.left[batch];
            case 3: return batches.shelf[batch];
            case 4: return batches.sold[batch];
            case 5: return batches.given[batch];
            case 6: return batches.wastedOf(batch);
            case 7: return batches.wasted[EXPIRED][batch];
            case 8: return batches.wasted[BROKEN][batch];
            case 9: return batches.wasted[RECALLED][batch];
            case 10: return now.stageOf(batch);
            case 11: return batches.cents[batch];
            default: return BAD_VALUE;
        }
    }

    public float unitPrice(int batch) {
        if (!hasBatch(batch)) {
            return notANumber();
        }
        return now.priceOfUnit(batch);
    }

    public float markdown(int stage) {
        if (!isStage(stage)) {
            return notANumber();
        }
        return now.stages.markdown[stage];
    }

    public int stage(int stage, int what) {
        if (!isStage(stage)) {
            return UNKNOWN;
        }
        switch (what) {
            case 0: return now.stages.share[stage];
            case 1: return now.batchesInStage(stage);
            case 2: return now.unitsInStage(stage);
            default: return BAD_VALUE;
        }
    }

    public int orderTold(int order, int what) {
        if (!hasOrder(order)) {
            return UNKNOWN;
        }
        Orders orders = now.orders;
        switch (what) {
            case 0: return orders.good[order];
            case 1: return orders.wanted[order];
            case 2: return orders.got[order];
            case 3: return orders.replaced[order];
            case 4: return orders.least[order];
            case 5: return orders.accepts[order];
            case 6: return orders.parts[order];
            case 7: return orders.due[order];
            case 8: return orders.day[order];
            default: return BAD_VALUE;
        }
    }

    public int taken(int order, int place, int what) {
        if (!hasOrder(order)) {
            return UNKNOWN;
        }
        if (place < 0 || !within(what, 0, 1)) {
            return BAD_VALUE;
        }
        if (place >= now.orders.parts[order]) {
            return NONE;
        }
        int take = now.orders.firstTake[order] + place;
        return what == 0 ? now.orders.takeBatch[take] : now.orders.takeUnits[take];
    }

    public int wouldGet(int good, int units, int least, boolean substitutes, int what) {
        int error = wishError(good, units, least);
        if (error != NO_ERROR) {
            return error;
        }
        if (!within(what, 0, 3)) {
            return BAD_VALUE;
        }
        filling.fill(now, good, units, least, substitutes);
        switch (what) {
            case 0: return filling.got;
            case 1: return filling.replaced;
            case 2: return filling.size;
            default: return filling.due(now.rebate);
        }
    }

    public int wouldExpire(int batch, int days) {
        if (!hasBatch(batch)) {
            return UNKNOWN;
        }
        if (!within(days, 1, MAX_PASS)) {
            return BAD_VALUE;
        }
        trial.copyFrom(now);
        trial.passDays(days);
        return trial.batches.wasted[EXPIRED][batch] - now.batches.wasted[EXPIRED][batch];
    }

    public int stageIn(int batch, int stage) {
        if (!hasBatch(batch) || !within(stage, 1, STAGES - 1)) {
            return UNKNOWN;
        }
        if (now.batches.shelf[batch] == 0) {
            return NONE;
        }
        int left = now.batches.left[batch];
        int life = now.goods.life[now.batches.good[batch]];
        for (int days = 0; days < left; days++) {
            if (now.stages.reached(left - days, life) >= stage) {
                return days;
            }
        }
        return NONE;
    }

    public int event(int back, int what) {
        if (back < 0 || !within(what, 0, 3)) {
            return BAD_VALUE;
        }
        Log log = now.log;
        if (back >= log.size) {
            return NONE;
        }
        int place = log.placeOf(back);
        switch (what) {
            case 0: return log.kind[place];
            case 1: return log.batch[place];
            case 2: return log.units[place];
            default: return log.day[place];
        }
    }

    public int takes(int sort, boolean isBatch, int number) {
        if (isBatch ? !hasBatch(number) : !hasGood(number)) {
            return UNKNOWN;
        }
        if (!within(sort, 0, 1)) {
            return BAD_VALUE;
        }
        boolean forBatches = sort == 1;
        return forBatches == isBatch ? 1 : 0;
    }

    public int count(int what) {
        Batches batches = now.batches;
        Orders orders = now.orders;
        switch (what) {
            case 0: return now.day;
            case 1: return now.goods.size;
            case 2: return batches.size;
            case 3: return orders.size;
            case 4: return batches.sum(batches.shelf);
            case 5: return batches.sum(batches.sold);
            case 6: return batches.sum(batches.given);
            case 7: return batches.wastedOfAll();
            case 8: return batches.sum(batches.wasted[EXPIRED]);
            case 9: return batches.sum(batches.wasted[BROKEN]);
            case 10: return batches.sum(batches.wasted[RECALLED]);
            case 11: return orders.sum(orders.wanted) - orders.sum(orders.got);
            case 12: return orders.refused();
            case 13: return orders.sum(orders.due);
            case 14: return now.settings[RULE];
            case 15: return now.settings[DONATION_STAGE];
            case 16: return now.settings[DONATION_MOST];
            case 17: return history.size;
            case 18: return textLength;
            default: return BAD_VALUE;
        }
    }

    // ---- checks

    private static boolean within(int value, int from, int to) {
        return value >= from && value <= to;
    }

    private boolean hasGood(int good) {
        return within(good, 0, now.goods.size - 1);
    }

    private boolean hasBatch(int batch) {
        return within(batch, 0, now.batches.size - 1);
    }

    private boolean hasOrder(int order) {
        return within(order, 0, now.orders.size - 1);
    }

    private static boolean isStage(int stage) {
        return within(stage, 0, STAGES - 1);
    }

    private static boolean isSetting(int what, int value) {
        switch (what) {
            case RULE: return within(value, 0, 2);
            case DONATION_STAGE: return within(value, 1, STAGES);
            case DONATION_MOST: return within(value, 0, MAX_UNITS);
            default: return false;
        }
    }

    private boolean isSupply(int good, int units, int left) {
        return within(units, 1, MAX_UNITS) && within(left, 1, now.goods.life[good]);
    }

    private int placeError(int good, int place) {
        if (!hasGood(good)) {
            return UNKNOWN;
        }
        if (place < 0) {
            return BAD_VALUE;
        }
        return place < now.goods.listed[good] ? NO_ERROR : NONE;
    }

    private int wishError(int good, int units, int least) {
        if (!hasGood(good)) {
            return UNKNOWN;
        }
        boolean fits = within(units, 1, MAX_UNITS) && within(least, 0, MAX_LIFE);
        return fits ? NO_ERROR : BAD_VALUE;
    }

    // Every entry is looked at for one error before any is looked at for the next one.
    private int deliveryError() {
        for (int entry = 0; entry < delivery.size; entry++) {
            if (!hasGood(delivery.goodIn(entry))) {
                return UNKNOWN;
            }
        }
        for (int entry = 0; entry < delivery.size; entry++) {
            int good = delivery.goodIn(entry);
            if (!isSupply(good, delivery.unitsIn(entry), leftIn(entry, good))) {
                return BAD_VALUE;
            }
        }
        return now.batches.size + delivery.size > MAX_BATCHES ? FULL : NO_ERROR;
    }

    private int leftIn(int entry, int good) {
        int left = delivery.leftIn(entry);
        return left == Delivery.NOT_TOLD ? now.goods.life[good] : left;
    }

    // LANGUAGE.md leaves no Float.intBitsToFloat. It is called with the bits of 0.0f to 100.0f
    // alone, whose exponents are below 150; each halving of such a number is exact.
    private static float floatOfBits(int bits) {
        int exponent = bits >> 23;
        int fraction = bits & 0x7FFFFF;
        if (exponent == 0) {
            exponent = 1;
        } else {
            fraction |= 0x800000;
        }
        float value = (float) fraction;
        for (int power = exponent; power < 150; power++) {
            value = value * 0.5f;
        }
        return value;
    }

    // The document asks for this one; it is a constant, so that no operation answers it.
    private static float notANumber() {
        return 0.0f / 0.0f;
    }

    private static void copyRow(int[] from, int[] to) {
        System.arraycopy(from, 0, to, 0, Math.min(from.length, to.length));
    }

    /**
     * What an act may change, and what undo and restore bring back. States are copied by whole
     * rows, so that behind the last good, batch or order the rows hold zeros, as at first.
     */
    private static final class State {
        final Goods goods = new Goods();
        final Batches batches = new Batches();
        final Orders orders = new Orders();
        final Stages stages = new Stages();
        final Log log = new Log();
        final int[] settings = {0, STAGES, 50};
        float rebate;
        int day;

        void copyFrom(State other) {
            goods.copyFrom(other.goods);
            batches.copyFrom(other.batches);
            orders.copyFrom(other.orders);
            stages.copyFrom(other.stages);
            log.copyFrom(other.log);
            copyRow(other.settings, settings);
            rebate = other.rebate;
            day = other.day;
        }

        int stageOf(int batch) {
            return stages.reached(batches.left[batch], goods.life[batches.good[batch]]);
        }

        float priceOfUnit(int batch) {
            float price = (float) goods.price[batches.good[batch]];
            return price * (1.0f - stages.markdown[stageOf(batch)] / 100.0f);
        }

        boolean isOnShelfIn(int batch, int stage) {
            return batches.shelf[batch] > 0 && stageOf(batch) == stage;
        }

        int batchesInStage(int stage) {
            int found = 0;
            for (int batch = 0; batch < batches.size; batch++) {
                if (isOnShelfIn(batch, stage)) {
                    found++;
                }
            }
            return found;
        }

        int unitsInStage(int stage) {
            int units = 0;
            for (int batch = 0; batch < batches.size; batch++) {
                if (isOnShelfIn(batch, stage)) {
                    units += batches.shelf[batch];
                }
            }
            return units;
        }

        int receive(int good, int units, int left) {
            int batch = batches.append(good, units, left);
            log.append(CAME, batch, units, day);
            return batch;
        }

        void sell(Filling filling) {
            for (int part = 0; part < filling.size; part++) {
                int batch = filling.batch[part];
                int units = filling.units[part];
                batches.shelf[batch] -= units;
                batches.sold[batch] += units;
                batches.cents[batch] += filling.cents[part];
                orders.appendTake(batch, units);
                log.append(SOLD, batch, units, day);
            }
            orders.endLast(filling.got, filling.replaced, filling.due(rebate));
        }

        void give(int batch, int units) {
            batches.shelf[batch] -= units;
            batches.given[batch] += units;
            log.append(GIVEN, batch, units, day);
        }

        void waste(int batch, int units, int cause) {
            batches.shelf[batch] -= units;
            batches.wasted[cause][batch] += units;
            log.append(WASTED, batch, units, day);
        }

        void wasteGood(int good) {
            for (int batch = 0; batch < batches.size; batch++) {
                if (batches.good[batch] == good && batches.shelf[batch] > 0) {
                    waste(batch, batches.shelf[batch], RECALLED);
                }
            }
        }

        /** Answers the units that expire. */
        int passDays(int days) {
            int expired = 0;
            for (int passed = 0; passed < days; passed++) {
                day++;
                batches.age();
                expired += expire();
                donate();
            }
            return expired;
        }

        int expire() {
            int expired = 0;
            for (int batch = 0; batch < batches.size; batch++) {
                int units = batches.shelf[batch];
                if (units > 0 && batches.left[batch] <= 0) {
                    waste(batch, units, EXPIRED);
                    expired += units;
                }
            }
            return expired;
        }

        void donate() {
            int most = settings[DONATION_MOST];
            for (int batch = 0; batch < batches.size && most > 0; batch++) {
                if (batches.shelf[batch] > 0 && stageOf(batch) >= settings[DONATION_STAGE]) {
                    int units = Math.min(batches.shelf[batch], most);
                    give(batch, units);
                    most -= units;
                }
            }
        }
    }

    /** The goods by their numbers, with their lists of substitutes. */
    private static final class Goods {
        int size;
        final int[] price = new int[MAX_GOODS];
        final int[] life = new int[MAX_GOODS];
        final int[] listed = new int[MAX_GOODS];
        final int[] list = new int[MAX_GOODS * MAX_SUBSTITUTES];

        void copyFrom(Goods other) {
            size = other.size;
            copyRow(other.price, price);
            copyRow(other.life, life);
            copyRow(other.listed, listed);
            copyRow(other.list, list);
        }

        int append(int firstPrice, int daysOfLife) {
            int good = size;
            price[good] = firstPrice;
            life[good] = daysOfLife;
            size++;
            return good;
        }

        int listedAt(int good, int place) {
            return list[good * MAX_SUBSTITUTES + place];
        }

        boolean lists(int good, int substitute) {
            for (int place = 0; place < listed[good]; place++) {
                if (listedAt(good, place) == substitute) {
                    return true;
                }
            }
            return false;
        }

        void insert(int good, int substitute, int place) {
            int start = good * MAX_SUBSTITUTES;
            for (int behind = listed[good]; behind > place; behind--) {
                list[start + behind] = list[start + behind - 1];
            }
            list[start + place] = substitute;
            listed[good]++;
        }

        int removeFrom(int good, int place) {
            int start = good * MAX_SUBSTITUTES;
            int removed = list[start + place];
            listed[good]--;
            for (int at = place; at < listed[good]; at++) {
                list[start + at] = list[start + at + 1];
            }
            return removed;
        }
    }

    /** The batches by their numbers, each with the way of its units. */
    private static final class Batches {
        int size;
        final int[] good = new int[MAX_BATCHES];
        final int[] came = new int[MAX_BATCHES];
        final int[] left = new int[MAX_BATCHES];
        final int[] shelf = new int[MAX_BATCHES];
        final int[] sold = new int[MAX_BATCHES];
        final int[] given = new int[MAX_BATCHES];
        final int[] cents = new int[MAX_BATCHES];
        final int[][] wasted = new int[CAUSES][MAX_BATCHES];

        void copyFrom(Batches other) {
            size = other.size;
            copyRow(other.good, good);
            copyRow(other.came, came);
            copyRow(other.left, left);
            copyRow(other.shelf, shelf);
            copyRow(other.sold, sold);
            copyRow(other.given, given);
            copyRow(other.cents, cents);
            for (int cause = 0; cause < CAUSES; cause++) {
                copyRow(other.wasted[cause], wasted[cause]);
            }
        }

        int append(int ofGood, int units, int daysLeft) {
            int batch = size;
            good[batch] = ofGood;
            came[batch] = units;
            left[batch] = daysLeft;
            shelf[batch] = units;
            size++;
            return batch;
        }

        void age() {
            for (int batch = 0; batch < size; batch++) {
                if (shelf[batch] > 0) {
                    left[batch]--;
                }
            }
        }

        int wastedOf(int batch) {
            return wasted[EXPIRED][batch] + wasted[BROKEN][batch] + wasted[RECALLED][batch];
        }

        int wastedOfAll() {
            return sum(wasted[EXPIRED]) + sum(wasted[BROKEN]) + sum(wasted[RECALLED]);
        }

        int sum(int[] row) {
            int sum = 0;
            for (int batch = 0; batch < size; batch++) {
                sum += row[batch];
            }
            return sum;
        }

        int sumOfGood(int[] row, int wantedGood) {
            int sum = 0;
            for (int batch = 0; batch < size; batch++) {
                if (good[batch] == wantedGood) {
                    sum += row[batch];
                }
            }
            return sum;
        }

        int countOfGood(int wantedGood) {
            int found = 0;
            for (int batch = 0; batch < size; batch++) {
                if (good[batch] == wantedGood) {
                    found++;
                }
            }
            return found;
        }
    }

    /** The orders by their numbers; what they took stands in one row of takes, order by order. */
    private static final class Orders {
        int size;
        int takes;
        final int[] good = new int[MAX_ORDERS];
        final int[] wanted = new int[MAX_ORDERS];
        final int[] got = new int[MAX_ORDERS];
        final int[] replaced = new int[MAX_ORDERS];
        final int[] least = new int[MAX_ORDERS];
        final int[] accepts = new int[MAX_ORDERS];
        final int[] parts = new int[MAX_ORDERS];
        final int[] due = new int[MAX_ORDERS];
        final int[] day = new int[MAX_ORDERS];
        final int[] firstTake = new int[MAX_ORDERS];
        final int[] takeBatch = new int[MAX_TAKES];
        final int[] takeUnits = new int[MAX_TAKES];

        void copyFrom(Orders other) {
            size = other.size;
            takes = other.takes;
            copyRow(other.good, good);
            copyRow(other.wanted, wanted);
            copyRow(other.got, got);
            copyRow(other.replaced, replaced);
            copyRow(other.least, least);
            copyRow(other.accepts, accepts);
            copyRow(other.parts, parts);
            copyRow(other.due, due);
            copyRow(other.day, day);
            copyRow(other.firstTake, firstTake);
            copyRow(other.takeBatch, takeBatch);
            copyRow(other.takeUnits, takeUnits);
        }

        void append(int ofGood, int units, int leastLeft, boolean substitutes, int today) {
            int order = size;
            good[order] = ofGood;
            wanted[order] = units;
            least[order] = leastLeft;
            accepts[order] = substitutes ? 1 : 0;
            day[order] = today;
            firstTake[order] = takes;
            size++;
        }

        void appendTake(int batch, int units) {
            if (size == 0 || takes >= MAX_TAKES) {
                return;
            }
            takeBatch[takes] = batch;
            takeUnits[takes] = units;
            takes++;
            parts[size - 1]++;
        }

        void endLast(int units, int substituteUnits, int cents) {
            if (size == 0) {
                return;
            }
            got[size - 1] = units;
            replaced[size - 1] = substituteUnits;
            due[size - 1] = cents;
        }

        int sum(int[] row) {
            int sum = 0;
            for (int order = 0; order < size; order++) {
                sum += row[order];
            }
            return sum;
        }

        int gotForGood(int wantedGood) {
            int units = 0;
            for (int order = 0; order < size; order++) {
                if (good[order] == wantedGood) {
                    units += got[order];
                }
            }
            return units;
        }

        int refused() {
            int found = 0;
            for (int order = 0; order < size; order++) {
                if (got[order] == 0) {
                    found++;
                }
            }
            return found;
        }
    }

    /** The shares of life, which fall from stage to stage, and the markdowns. */
    private static final class Stages {
        final int[] share = {100, 50, 25, 10};
        final float[] markdown = {0.0f, 20.0f, 40.0f, 70.0f};

        void copyFrom(Stages other) {
            for (int stage = 0; stage < STAGES; stage++) {
                share[stage] = other.share[stage];
                markdown[stage] = other.markdown[stage];
            }
        }

        boolean hasRoomFor(int stage, int newShare) {
            int shareBehind = stage + 1 < STAGES ? share[stage + 1] : -1;
            return newShare < share[stage - 1] && newShare > shareBehind;
        }

        int reached(int daysLeft, int life) {
            for (int stage = STAGES - 1; stage > 0; stage--) {
                if (daysLeft * 100 <= share[stage] * life) {
                    return stage;
                }
            }
            return 0;
        }
    }

    /** The latest events, in a ring. */
    private static final class Log {
        int size;
        int next;
        final int[] kind = new int[MAX_EVENTS];
        final int[] batch = new int[MAX_EVENTS];
        final int[] units = new int[MAX_EVENTS];
        final int[] day = new int[MAX_EVENTS];

        void copyFrom(Log other) {
            size = other.size;
            next = other.next;
            copyRow(other.kind, kind);
            copyRow(other.batch, batch);
            copyRow(other.units, units);
            copyRow(other.day, day);
        }

        void append(int newKind, int ofBatch, int ofUnits, int today) {
            kind[next] = newKind;
            batch[next] = ofBatch;
            units[next] = ofUnits;
            day[next] = today;
            next = (next + 1) % MAX_EVENTS;
            size = Math.min(size + 1, MAX_EVENTS);
        }

        int placeOf(int back) {
            return Math.floorMod(next - 1 - back, MAX_EVENTS);
        }
    }

    /** The latest states, in a ring. */
    private static final class History {
        final State[] states = new State[MAX_HISTORY];
        int oldest;
        int size;

        History() {
            for (int place = 0; place < MAX_HISTORY; place++) {
                states[place] = new State();
            }
        }

        void push(State state) {
            if (size == MAX_HISTORY) {
                oldest = (oldest + 1) % MAX_HISTORY;
                size--;
            }
            states[(oldest + size) % MAX_HISTORY].copyFrom(state);
            size++;
        }

        void popInto(State state) {
            size--;
            state.copyFrom(states[(oldest + size) % MAX_HISTORY]);
        }
    }

    /** What an order gets: the parts in the order in which they are taken. It changes no state. */
    private static final class Filling {
        int size;
        int got;
        int replaced;
        final int[] batch = new int[MAX_BATCHES];
        final int[] units = new int[MAX_BATCHES];
        final int[] cents = new int[MAX_BATCHES];
        private final int[] rest = new int[MAX_BATCHES];
        private final float[] price = new float[MAX_BATCHES];
        private int orderedGood;
        private int wanted;
        private int least;

        void fill(State state, int good, int wantedUnits, int leastLeft, boolean substitutes) {
            size = 0;
            got = 0;
            orderedGood = good;
            wanted = wantedUnits;
            least = leastLeft;
            copyRow(state.batches.shelf, rest);
            for (int each = 0; each < state.batches.size; each++) {
                price[each] = state.priceOfUnit(each);
            }
            takeFrom(state, good);
            int ofGood = got;
            int listed = substitutes ? state.goods.listed[good] : 0;
            for (int place = 0; place < listed; place++) {
                takeFrom(state, state.goods.listedAt(good, place));
            }
            replaced = got - ofGood;
        }

        int due(float rebate) {
            int sum = 0;
            for (int part = 0; part < size; part++) {
                sum += cents[part];
            }
            return sum - (int) ((float) sum * rebate / 100.0f);
        }

        private void takeFrom(State state, int good) {
            for (int tries = 0; tries < MAX_BATCHES && got < wanted; tries++) {
                int next = nextBatch(state, good);
                if (next < 0) {
                    return;
                }
                takePart(state, next, Math.min(wanted - got, rest[next]));
            }
        }

        private void takePart(State state, int next, int taken) {
            if (size >= MAX_BATCHES) {
                return;
            }
            batch[size] = next;
            units[size] = taken;
            cents[size] = (int) ((float) taken * chargedPrice(state, next));
            size++;
            rest[next] -= taken;
            got += taken;
        }

        private float chargedPrice(State state, int next) {
            int most = state.goods.price[orderedGood];
            boolean isDearer = state.goods.price[state.batches.good[next]] > most;
            return isDearer && price[next] > (float) most ? (float) most : price[next];
        }

        private int nextBatch(State state, int good) {
            int first = -1;
            for (int other = 0; other < state.batches.size; other++) {
                if (isOpen(state, other, good) && (first < 0 || isBefore(state, other, first))) {
                    first = other;
                }
            }
            return first;
        }

        private boolean isOpen(State state, int other, int good) {
            Batches batches = state.batches;
            return batches.good[other] == good && rest[other] > 0 && batches.left[other] >= least;
        }

        // Strict, so that of several equal batches the lowest number stays the first.
        private boolean isBefore(State state, int other, int first) {
            int[] left = state.batches.left;
            switch (state.settings[RULE]) {
                case MOST_DAYS_FIRST: return left[other] > left[first];
                case LOWEST_PRICE_FIRST: return price[other] < price[first];
                default: return left[other] < left[first];
            }
        }
    }

    /** Reads the entries of a delivery from a text, character by character. */
    private static final class Delivery {
        static final int NO_FAULT = -1;
        static final int NOT_TOLD = -1;

        private static final int GOOD = 0;
        private static final int UNITS = 1;
        private static final int LEFT = 2;
        private static final int PARTS = 3;
        private static final int MAX_DIGITS = 3;

        // An entry and the comma behind it take four characters or more; the last comma may
        // open one entry more, which stays empty.
        private static final int MAX_ENTRIES = MAX_TEXT / 4 + 1;

        int size;
        private int part;
        private int digits;
        private final int[][] numbers = new int[PARTS][MAX_ENTRIES];

        /** Answers the fault of the text. */
        int read(char[] text, int length) {
            size = 0;
            openEntry();
            for (int at = 0; at < length; at++) {
                if (!accepts(text[at])) {
                    return at;
                }
            }
            return part == GOOD || digits == 0 ? length : NO_FAULT;
        }

        int goodIn(int entry) {
            return numbers[GOOD][entry];
        }

        int unitsIn(int entry) {
            return numbers[UNITS][entry];
        }

        int leftIn(int entry) {
            return numbers[LEFT][entry];
        }

        private boolean accepts(char character) {
            if (character >= '0' && character <= '9') {
                return acceptsDigit(character - '0');
            }
            if (digits == 0) {
                return false;
            }
            if (part == GOOD) {
                return character == 'x' && openPart(UNITS);
            }
            if (part == UNITS && character == '/') {
                return openPart(LEFT);
            }
            return character == ',' && openEntry();
        }

        private boolean acceptsDigit(int digit) {
            int[] row = numbers[part];
            int entry = size - 1;
            boolean isZero = digits == 1 && row[entry] == 0;
            if (isZero || digits == MAX_DIGITS) {
                return false;
            }
            row[entry] = digits == 0 ? digit : row[entry] * 10 + digit;
            digits++;
            return true;
        }

        private boolean openEntry() {
            if (size >= MAX_ENTRIES) {
                return false;
            }
            numbers[LEFT][size] = NOT_TOLD;
            size++;
            return openPart(GOOD);
        }

        private boolean openPart(int newPart) {
            part = newPart;
            digits = 0;
            return true;
        }
    }
}
