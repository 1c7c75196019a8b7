import java.util.ArrayList;
import java.util.Comparator;
import java.util.List;
import java.util.regex.Matcher;
import java.util.regex.Pattern;

/**
 * The document once more, in the plainest words of the Java library: states are copied whole and
 * every number is counted anew from the units' ways. ModelTest compares the class with it.
 */
final class Model {
    private static final String NUMBER = "(0|[1-9][0-9]?[0-9]?)";
    private static final String ENTRY = NUMBER + "x" + NUMBER + "(?:/" + NUMBER + ")?";
    private static final Pattern TEXT = Pattern.compile(ENTRY + "(?:," + ENTRY + ")*");

    static final class Good {
        int price;
        int life;
        List<Integer> substitutes = new ArrayList<>();
    }

    static final class Batch {
        int good;
        int came;
        int left;
        int cents;
        int[] gone = new int[5]; // expired, broken, recalled, sold, given

        int shelf() {
            return came - gone[0] - gone[1] - gone[2] - gone[3] - gone[4];
        }
    }

    static final class Order {
        int good;
        int wanted;
        int least;
        int day;
        boolean accepts;
        int due;
        int substitutes;
        List<int[]> takes = new ArrayList<>();

        int got() {
            return takes.stream().mapToInt(take -> take[1]).sum();
        }
    }

    static final class State {
        int day;
        int[] settings = {0, 4, 50};
        float rebate;
        int[] shares = {100, 50, 25, 10};
        float[] markdowns = {0.0f, 20.0f, 40.0f, 70.0f};
        List<Good> goods = new ArrayList<>();
        List<Batch> batches = new ArrayList<>();
        List<Order> orders = new ArrayList<>();
        List<int[]> events = new ArrayList<>();

        State copy() {
            State copy = new State();
            copy.day = day;
            copy.settings = settings.clone();
            copy.rebate = rebate;
            copy.shares = shares.clone();
            copy.markdowns = markdowns.clone();
            for (Good good : goods) {
                Good other = new Good();
                other.price = good.price;
                other.life = good.life;
                other.substitutes = new ArrayList<>(good.substitutes);
                copy.goods.add(other);
            }
            for (Batch batch : batches) {
                Batch other = new Batch();
                other.good = batch.good;
                other.came = batch.came;
                other.left = batch.left;
                other.cents = batch.cents;
                other.gone = batch.gone.clone();
                copy.batches.add(other);
            }
            copy.orders.addAll(orders); // never changed once they are filled
            copy.events.addAll(events);
            return copy;
        }

        void log(int kind, int batch, int units) {
            events.add(0, new int[] {kind, batch, units, day});
        }

        int stageOf(Batch batch, int left) {
            int stage = 0;
            for (int each = 0; each < 4; each++) {
                if (left * 100 <= shares[each] * goods.get(batch.good).life) {
                    stage = each;
                }
            }
            return stage;
        }

        float unitPrice(Batch batch) {
            float off = markdowns[stageOf(batch, batch.left)] / 100.0f;
            return goods.get(batch.good).price * (1.0f - off);
        }

        Order fill(int good, int units, int least, boolean accepts) {
            Order order = new Order();
            order.good = good;
            order.wanted = units;
            order.least = least;
            order.accepts = accepts;
            order.day = day;
            List<Integer> goodsInTurn = new ArrayList<>(List.of(good));
            if (accepts) {
                goodsInTurn.addAll(goods.get(good).substitutes);
            }
            int sum = 0;
            for (int each : goodsInTurn) {
                for (int number : inTurn(each, least)) {
                    Batch batch = batches.get(number);
                    int taken = Math.min(units - order.got(), batch.shelf());
                    if (taken > 0) {
                        int cents = (int) (taken * charged(order, batch));
                        order.takes.add(new int[] {number, taken, cents});
                        order.substitutes += each == good ? 0 : taken;
                        sum += cents;
                    }
                }
            }
            order.due = sum - (int) (sum * rebate / 100.0f);
            return order;
        }

        List<Integer> inTurn(int good, int least) {
            List<Integer> numbers = new ArrayList<>();
            for (int number = 0; number < batches.size(); number++) {
                if (batches.get(number).good == good && batches.get(number).left >= least) {
                    numbers.add(number);
                }
            }
            Comparator<Integer> byDays = Comparator.comparing(number -> batches.get(number).left);
            Comparator<Integer> byPrice = Comparator.comparing(number -> unitPrice(batches.get(number)));
            int rule = settings[0];
            numbers.sort(rule == 0 ? byDays : rule == 1 ? byDays.reversed() : byPrice);
            return numbers;
        }

        float charged(Order order, Batch batch) {
            int most = goods.get(order.good).price;
            float price = unitPrice(batch);
            return goods.get(batch.good).price > most ? Math.min(price, most) : price;
        }

        int passDay() {
            day++;
            for (Batch batch : batches) {
                batch.left -= batch.shelf() > 0 ? 1 : 0;
            }
            int expired = 0;
            for (int number = 0; number < batches.size(); number++) {
                Batch batch = batches.get(number);
                if (batch.left == 0) {
                    expired += leave(number, batch.shelf(), 0);
                }
            }
            int given = 0;
            for (int number = 0; number < batches.size(); number++) {
                Batch batch = batches.get(number);
                if (stageOf(batch, batch.left) >= settings[1]) {
                    given += leave(number, Math.min(batch.shelf(), settings[2] - given), 4);
                }
            }
            return expired;
        }

        int leave(int number, int units, int way) {
            if (units > 0) {
                batches.get(number).gone[way] += units;
                log(way == 4 ? 2 : way == 3 ? 1 : 3, number, units);
            }
            return units;
        }
    }

    State now = new State();
    State snapshot;
    List<State> history = new ArrayList<>();
    String text = "";

    private void record() {
        history.add(now.copy());
        if (history.size() > 4) {
            history.remove(0);
        }
    }

    private boolean noGood(int good) {
        return good < 0 || good >= now.goods.size();
    }

    private boolean noBatch(int batch) {
        return batch < 0 || batch >= now.batches.size();
    }

    private static boolean out(int value, int from, int to) {
        return value < from || value > to;
    }

    private static boolean badFloat(int bits, float most) {
        float value = Float.intBitsToFloat(bits);
        return !(value >= 0.0f && value <= most) || bits == Float.floatToRawIntBits(-0.0f);
    }

    int addGood(int price, int life) {
        if (out(price, 1, 9999) || out(life, 1, 60)) {
            return -2;
        }
        if (now.goods.size() == 12) {
            return -3;
        }
        record();
        Good good = new Good();
        good.price = price;
        good.life = life;
        now.goods.add(good);
        return now.goods.size() - 1;
    }

    int setPrice(int good, int price) {
        if (noGood(good)) {
            return -1;
        }
        if (out(price, 1, 9999)) {
            return -2;
        }
        int previous = now.goods.get(good).price;
        if (price == previous) {
            return -5;
        }
        record();
        now.goods.get(good).price = price;
        return previous;
    }

    int addSubstitute(int good, int substitute, int place) {
        if (noGood(good) || noGood(substitute)) {
            return -1;
        }
        List<Integer> list = now.goods.get(good).substitutes;
        if (good == substitute || out(place, 0, list.size())) {
            return -2;
        }
        if (list.contains(substitute)) {
            return -4;
        }
        if (list.size() == 4) {
            return -3;
        }
        record();
        list.add(place, substitute);
        return list.size();
    }

    int removeSubstitute(int good, int place) {
        int there = substitute(good, place);
        if (there >= 0) {
            record();
            now.goods.get(good).substitutes.remove(place);
        }
        return there;
    }

    int setStage(int stage, int share, int markdown) {
        if (out(stage, 1, 3)) {
            return -1;
        }
        int least = stage == 3 ? 0 : now.shares[stage + 1] + 1;
        if (out(share, least, now.shares[stage - 1] - 1) || badFloat(markdown, 100.0f)) {
            return -2;
        }
        int previous = now.shares[stage];
        float value = Float.intBitsToFloat(markdown);
        if (previous == share && now.markdowns[stage] == value) {
            return -5;
        }
        record();
        now.shares[stage] = share;
        now.markdowns[stage] = value;
        return previous;
    }

    int set(int what, int value) {
        int[] from = {0, 1, 0};
        int[] to = {2, 4, 999};
        if (out(what, 0, 2) || out(value, from[what], to[what])) {
            return -2;
        }
        int previous = now.settings[what];
        if (previous == value) {
            return -5;
        }
        record();
        now.settings[what] = value;
        return previous;
    }

    int setRebate(int bits) {
        if (badFloat(bits, 30.0f)) {
            return -2;
        }
        if (Float.intBitsToFloat(bits) == now.rebate) {
            return -5;
        }
        record();
        now.rebate = Float.intBitsToFloat(bits);
        return 1;
    }

    private int come(int good, int units, int left) {
        Batch batch = new Batch();
        batch.good = good;
        batch.came = units;
        batch.left = left;
        now.batches.add(batch);
        now.log(0, now.batches.size() - 1, units);
        return now.batches.size() - 1;
    }

    int bring(int good, int units, int left) {
        if (noGood(good)) {
            return -1;
        }
        if (out(units, 1, 999) || out(left, 1, now.goods.get(good).life)) {
            return -2;
        }
        if (now.batches.size() == 40) {
            return -3;
        }
        record();
        return come(good, units, left);
    }

    /** The longest beginning that some text without fault begins with ends at the fault. */
    private int fault() {
        for (int length = 1; length <= text.length(); length++) {
            Matcher beginning = TEXT.matcher(text.substring(0, length));
            if (!beginning.matches() && !beginning.hitEnd()) {
                return length - 1;
            }
        }
        return TEXT.matcher(text).matches() ? -1 : text.length();
    }

    int readDelivery() {
        int fault = fault();
        if (fault >= 0) {
            return -100 - fault;
        }
        List<int[]> entries = new ArrayList<>();
        for (String entry : text.split(",")) {
            String[] parts = entry.split("[x/]");
            int left = parts.length > 2 ? Integer.parseInt(parts[2]) : -1;
            entries.add(new int[] {Integer.parseInt(parts[0]), Integer.parseInt(parts[1]), left});
        }
        for (int[] entry : entries) {
            if (noGood(entry[0])) {
                return -1;
            }
            entry[2] = entry[2] == -1 ? now.goods.get(entry[0]).life : entry[2];
        }
        for (int[] entry : entries) {
            if (out(entry[1], 1, 999) || out(entry[2], 1, now.goods.get(entry[0]).life)) {
                return -2;
            }
        }
        if (now.batches.size() + entries.size() > 40) {
            return -3;
        }
        record();
        for (int[] entry : entries) {
            come(entry[0], entry[1], entry[2]);
        }
        return entries.size();
    }

    int order(int good, int units, int least, boolean accepts) {
        if (noGood(good)) {
            return -1;
        }
        if (out(units, 1, 999) || out(least, 0, 60)) {
            return -2;
        }
        if (now.orders.size() == 30) {
            return -3;
        }
        record();
        Order order = now.fill(good, units, least, accepts);
        now.orders.add(order);
        for (int[] take : order.takes) {
            now.leave(take[0], take[1], 3);
            now.batches.get(take[0]).cents += take[2];
        }
        return order.got();
    }

    int breakUnits(int batch, int units) {
        if (noBatch(batch)) {
            return -1;
        }
        if (out(units, 1, 999)) {
            return -2;
        }
        if (now.batches.get(batch).shelf() < units) {
            return -4;
        }
        record();
        now.leave(batch, units, 1);
        return now.batches.get(batch).shelf();
    }

    int recall(int good) {
        if (noGood(good)) {
            return -1;
        }
        int units = good(good, 3);
        if (units == 0) {
            return -5;
        }
        record();
        for (int number = 0; number < now.batches.size(); number++) {
            if (now.batches.get(number).good == good) {
                now.leave(number, now.batches.get(number).shelf(), 2);
            }
        }
        return units;
    }

    int pass(int days) {
        if (out(days, 1, 60)) {
            return -2;
        }
        if (now.day + days > 9999) {
            return -4;
        }
        record();
        int expired = 0;
        for (int day = 0; day < days; day++) {
            expired += now.passDay();
        }
        return expired;
    }

    int type(char character) {
        if (text.length() == 60) {
            return -3;
        }
        text = text + character;
        return text.length();
    }

    int clearText() {
        int length = text.length();
        text = "";
        return length;
    }

    int undo() {
        if (history.isEmpty()) {
            return -5;
        }
        now = history.remove(history.size() - 1);
        return history.size();
    }

    int keep() {
        snapshot = now.copy();
        return now.day;
    }

    int restore() {
        if (snapshot == null) {
            return -5;
        }
        record();
        now = snapshot.copy();
        return now.day;
    }

    int good(int good, int what) {
        if (noGood(good)) {
            return -1;
        }
        if (out(what, 0, 6)) {
            return -2;
        }
        Good it = now.goods.get(good);
        List<Batch> batches = now.batches.stream().filter(batch -> batch.good == good).toList();
        int ordered = now.orders.stream().filter(order -> order.good == good).mapToInt(Order::got).sum();
        int[] told = {it.price, it.life, it.substitutes.size(),
            batches.stream().mapToInt(Batch::shelf).sum(), batches.size(),
            batches.stream().mapToInt(batch -> batch.gone[3]).sum(), ordered};
        return told[what];
    }

    int substitute(int good, int place) {
        if (noGood(good)) {
            return -1;
        }
        if (place < 0) {
            return -2;
        }
        List<Integer> list = now.goods.get(good).substitutes;
        return place < list.size() ? list.get(place) : -5;
    }

    int batch(int batch, int what) {
        if (noBatch(batch)) {
            return -1;
        }
        if (out(what, 0, 11)) {
            return -2;
        }
        Batch it = now.batches.get(batch);
        int[] told = {it.good, it.came, it.left, it.shelf(), it.gone[3], it.gone[4],
            it.gone[0] + it.gone[1] + it.gone[2], it.gone[0], it.gone[1], it.gone[2],
            now.stageOf(it, it.left), it.cents};
        return told[what];
    }

    float unitPrice(int batch) {
        return noBatch(batch) ? Float.NaN : now.unitPrice(now.batches.get(batch));
    }

    float markdown(int stage) {
        return out(stage, 0, 3) ? Float.NaN : now.markdowns[stage];
    }

    int stage(int stage, int what) {
        if (out(stage, 0, 3)) {
            return -1;
        }
        if (out(what, 0, 2)) {
            return -2;
        }
        List<Batch> batches = now.batches.stream()
            .filter(batch -> batch.shelf() > 0 && now.stageOf(batch, batch.left) == stage).toList();
        int units = batches.stream().mapToInt(Batch::shelf).sum();
        return new int[] {now.shares[stage], batches.size(), units}[what];
    }

    int orderTold(int order, int what) {
        if (out(order, 0, now.orders.size() - 1)) {
            return -1;
        }
        if (out(what, 0, 8)) {
            return -2;
        }
        Order it = now.orders.get(order);
        int[] told = {it.good, it.wanted, it.got(), it.substitutes, it.least, it.accepts ? 1 : 0,
            it.takes.size(), it.due, it.day};
        return told[what];
    }

    int taken(int order, int place, int what) {
        if (out(order, 0, now.orders.size() - 1)) {
            return -1;
        }
        if (place < 0 || out(what, 0, 1)) {
            return -2;
        }
        List<int[]> takes = now.orders.get(order).takes;
        return place < takes.size() ? takes.get(place)[what] : -5;
    }

    int wouldGet(int good, int units, int least, boolean accepts, int what) {
        if (noGood(good)) {
            return -1;
        }
        if (out(units, 1, 999) || out(least, 0, 60) || out(what, 0, 3)) {
            return -2;
        }
        Order order = now.fill(good, units, least, accepts);
        return new int[] {order.got(), order.substitutes, order.takes.size(), order.due}[what];
    }

    int wouldExpire(int batch, int days) {
        if (noBatch(batch)) {
            return -1;
        }
        if (out(days, 1, 60)) {
            return -2;
        }
        State later = now.copy();
        for (int day = 0; day < days; day++) {
            later.passDay();
        }
        return later.batches.get(batch).gone[0] - now.batches.get(batch).gone[0];
    }

    int stageIn(int batch, int stage) {
        if (noBatch(batch) || out(stage, 1, 3)) {
            return -1;
        }
        Batch it = now.batches.get(batch);
        int days = 0;
        while (now.stageOf(it, it.left - days) < stage) {
            days++;
        }
        return it.shelf() == 0 || days >= it.left ? -5 : days;
    }

    int event(int back, int what) {
        if (back < 0 || out(what, 0, 3)) {
            return -2;
        }
        return back < 10 && back < now.events.size() ? now.events.get(back)[what] : -5;
    }

    int takes(int sort, boolean isBatch, int number) {
        if (isBatch ? noBatch(number) : noGood(number)) {
            return -1;
        }
        if (out(sort, 0, 1)) {
            return -2;
        }
        return isBatch == (sort == 1) ? 1 : 0;
    }

    int count(int what) {
        if (out(what, 0, 18)) {
            return -2;
        }
        int[] gone = new int[5];
        for (Batch batch : now.batches) {
            for (int way = 0; way < 5; way++) {
                gone[way] += batch.gone[way];
            }
        }
        List<Order> orders = now.orders;
        int[] told = {now.day, now.goods.size(), now.batches.size(), orders.size(),
            now.batches.stream().mapToInt(Batch::shelf).sum(), gone[3], gone[4],
            gone[0] + gone[1] + gone[2], gone[0], gone[1], gone[2],
            orders.stream().mapToInt(order -> order.wanted - order.got()).sum(),
            (int) orders.stream().filter(order -> order.got() == 0).count(),
            orders.stream().mapToInt(order -> order.due).sum(),
            now.settings[0], now.settings[1], now.settings[2], history.size(), text.length()};
        return told[what];
    }
}
