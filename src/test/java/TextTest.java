/** Texts: which characters are allowed at each place, where a text may end, and how long it may be. */
public final class TextTest {
    private static final String DIGITS = "0123456789";
    private static final int FULL = Stores.FULL;

    public static void main(String[] args) {
        characterAtItsPlace();
        endOfTheText();
        sixtyCharacters();
        fullTextOfOneEntryMore();
        numbersOfThreeDigits();
        lifeWithoutDaysLeft();
        Check.end();
    }

    private static void characterAtItsPlace() {
        for (String ahead : new String[] {"", "0x1,", "1x999/10,", "0x1,0x1,"}) {
            allowed(ahead, DIGITS);
            allowed(ahead + "0", "x");
            allowed(ahead + "7", DIGITS + "x");
            allowed(ahead + "70", DIGITS + "x");
            allowed(ahead + "700", "x");
            allowed(ahead + "0x", DIGITS);
            allowed(ahead + "0x0", "/,");
            allowed(ahead + "0x9", DIGITS + "/,");
            allowed(ahead + "0x90", DIGITS + "/,");
            allowed(ahead + "0x900", "/,");
            allowed(ahead + "0x1/", DIGITS);
            allowed(ahead + "0x1/0", ",");
            allowed(ahead + "0x1/5", DIGITS + ",");
            allowed(ahead + "0x1/50", DIGITS + ",");
            allowed(ahead + "0x1/505", ",");
        }
    }

    /** Behind the text that is ahead, the characters are allowed, and no other ones. */
    private static void allowed(String ahead, String characters) {
        Check check = new Check("the first character that is not allowed, behind " + ahead);
        ShelfStages store = Stores.withText(Stores.withGoods(1), ahead);
        for (int code = 0; code <= 0xFFFF; code += code < 0x180 ? 1 : 0x2B) {
            char character = (char) code;
            Stores.withText(store, ahead + character);
            boolean isFault = store.readDelivery() == -100 - ahead.length();
            check.due("character " + code, isFault ? 1 : 0, characters.indexOf(character) < 0 ? 1 : 0);
        }
    }

    private static void endOfTheText() {
        Check check = new Check("the length of the text if it ends too early");
        String whole = "0x10/10,1x100/1,0x1";
        ShelfStages store = Stores.withGoods(2);
        boolean[] isWhole = new boolean[whole.length() + 1];
        for (int length : new int[] {3, 4, 6, 7, 11, 12, 13, 15, 19}) {
            isWhole[length] = true;
        }
        for (int length = 0; length <= whole.length(); length++) {
            Stores.withText(store, whole.substring(0, length));
            int answer = store.readDelivery();
            check.due("fault of the first " + length, answer < 0 ? answer : 0, isWhole[length] ? 0 : -100 - length);
            if (answer > 0) {
                store.undo();
            }
        }
    }

    private static void sixtyCharacters() {
        Check check = new Check("at most 60 characters");
        ShelfStages store = Stores.withGoods(1);
        String longest = "0x1,".repeat(14) + "0x10";
        Stores.withText(store, longest);
        check.due("length", store.count(18), 60);
        check.due("one more", store.type('0'), FULL);
        check.due("length still", store.count(18), 60);
        check.due("entries of 60 characters", store.readDelivery(), 15);
        check.due("units of the last", store.batch(14, 1), 10);
        check.due("cleared", store.clearText(), 60);
        check.due("room again", store.type('0'), 1);
        Stores.withText(store, longest.substring(0, 59) + ',');
        check.due("ends too early", store.readDelivery(), -160);
        Stores.withText(store, longest.substring(0, 59) + 'x');
        check.due("the last is not allowed", store.readDelivery(), -159);
        Stores.withText(store, "0".repeat(60));
        check.due("the second is not allowed", store.readDelivery(), -101);
        check.due("batches", store.count(2), 15);
    }

    private static void fullTextOfOneEntryMore() {
        Check check = new Check("15 entries at most, and a comma");
        ShelfStages store = Stores.withGoods(1);
        Stores.withText(store, "0x1,".repeat(15));
        check.due("length", store.count(18), 60);
        check.due("an empty 16th entry", store.readDelivery(), -160);
        Stores.withText(store, "0x1,".repeat(15).substring(0, 59));
        check.due("without the comma", store.readDelivery(), 15);
        check.due("once more", store.readDelivery(), 15);
        check.due("45 batches", store.readDelivery(), FULL);
    }

    private static void numbersOfThreeDigits() {
        Check check = new Check("one to three digits, zeros in front not allowed");
        ShelfStages store = Stores.withGoods(12);
        int[] numbers = {1, 9, 10, 11, 99, 100, 101, 110, 998, 999};
        for (int units : numbers) {
            Stores.withText(store, "11x" + units + "/1");
            check.due("units " + units, store.readDelivery(), 1);
            check.due("units that came", store.batch(store.count(2) - 1, 1), units);
            check.due("of the good", store.batch(store.count(2) - 1, 0), 11);
        }
        String[] texts = {"11x1000", "0011x1", "011x1", "00x1", "11x01", "11x00", "11x1/01", "11x1/00",
            "11x1/1000", "1111x1"};
        int[] faults = {6, 1, 1, 1, 4, 4, 6, 6, 8, 3};
        for (int at = 0; at < texts.length; at++) {
            Stores.withText(store, texts[at]);
            check.due(texts[at], store.readDelivery(), -100 - faults[at]);
        }
        Stores.withText(store, "11x0");
        check.due("the single digit 0 is no fault of units", store.readDelivery(), Stores.BAD_VALUE);
        Stores.withText(store, "11x1/0");
        check.due("nor of days left", store.readDelivery(), Stores.BAD_VALUE);
        Stores.withText(store, "999x1");
        check.due("nor are three digits of a good", store.readDelivery(), Stores.UNKNOWN);
        Stores.withText(store, "0x999/999");
        check.due("nor are three digits of days left", store.readDelivery(), Stores.BAD_VALUE);
    }

    private static void lifeWithoutDaysLeft() {
        Check check = new Check("without days left, an entry has the days of life of its good");
        ShelfStages store = new ShelfStages();
        int[] lives = {1, 60, 2, 59};
        for (int life : lives) {
            store.addGood(1, life);
        }
        Stores.withText(store, "3x1,2x1,1x1/59,0x1,1x1");
        check.due("entries", store.readDelivery(), 5);
        int[] left = {59, 2, 59, 1, 60};
        for (int batch = 0; batch < 5; batch++) {
            check.due("left of " + batch, store.batch(batch, 2), left[batch]);
        }
    }
}
