import java.io.IOException;
import java.nio.file.Files;
import java.nio.file.Path;
import java.util.ArrayList;
import java.util.HashMap;
import java.util.List;
import java.util.Map;
import java.util.regex.Matcher;
import java.util.regex.Pattern;

/** The example of README.md stands here once more; its answers are those that its comments tell. */
public final class ReadmeTest {
    private static final String BEGIN = "// the example of README.md begins";
    private static final String END = "// the example of README.md ends";
    private static final Pattern ANSWER = Pattern.compile("(?:int|float) (\\w+) = .*; +// (-?[0-9.]+).*");
    private static final Check CHECK = new Check("README.md");

    private final Map<String, String> told = new HashMap<>();

    public static void main(String[] args) throws IOException {
        List<String> readme = between(Path.of("README.md"), "```java", "```");
        List<String> here = between(Path.of("src/test/java/ReadmeTest.java"), BEGIN, END);
        CHECK.dueText("its example", String.join("\n", readme), String.join("\n", here));
        ReadmeTest test = new ReadmeTest();
        for (String line : readme) {
            Matcher answer = ANSWER.matcher(line);
            if (answer.matches()) {
                test.told.put(answer.group(1), answer.group(2));
            }
        }
        test.example();
        CHECK.dueText("answers that are not looked at", test.told.toString(), "{}");
        Check.end();
    }

    private static List<String> between(Path file, String begin, String end) throws IOException {
        List<String> lines = new ArrayList<>();
        boolean isInside = false;
        for (String line : Files.readAllLines(file)) {
            String words = line.strip();
            isInside = isInside && !words.equals(end);
            if (isInside) {
                lines.add(words);
            }
            isInside = isInside || words.equals(begin);
        }
        return lines;
    }

    private void answered(String name, Object answer) {
        String due = told.remove(name);
        CHECK.dueText(name, answer.toString(), due == null ? "not told" : due);
    }

    private void example() {
        // the example of README.md begins
        ShelfStages store = new ShelfStages();
        int milk = store.addGood(100, 10);            // 0: its number; 100 cents, 10 days of life
        int cream = store.addGood(150, 4);            // 1
        int listed = store.addSubstitute(milk, cream, 0);   // 1: milk has one substitute
        int fresh = store.bring(milk, 5, 10);         // 0: a batch of 5 units with 10 days left
        int older = store.bring(milk, 7, 3);          // 1: its stage is 1, so 20 percent are off
        float price = store.unitPrice(older);         // 80.0
        int got = store.order(milk, 9, 0, true);      // 9: the 7 older units first, then 2
        int due = store.orderTold(0, 7);              // 760: the cents for the order 0

        for (char character : "0x20/4,1x6".toCharArray()) {
            store.type(character);
        }
        int batches = store.readDelivery();           // 2: the batches 2 and 3
        int noGood = store.bring(2, 1, 1);            // -1: UNKNOWN, there is no good 2
        int bits = Float.floatToRawIntBits(12.5f);
        int isSet = store.setRebate(bits);            // 1: 12.5 percent off each sum
        int would = store.wouldGet(cream, 8, 0, false, 3);  // 788: 6 of 8 units, 900 - 112

        int day = store.keep();                       // 0: the day of the snapshot
        int expired = store.pass(4);                  // 26: 20 of the batch 2 and 6 of the batch 3
        int then = store.restore();                   // 0: the day then
        int states = store.undo();                    // 3: states that are left; the 4 days are back
        int today = store.count(0);                   // 4
        // the example of README.md ends
        answered("milk", milk);
        answered("cream", cream);
        answered("listed", listed);
        answered("fresh", fresh);
        answered("older", older);
        answered("price", price);
        answered("got", got);
        answered("due", due);
        answered("batches", batches);
        answered("noGood", noGood);
        answered("isSet", isSet);
        answered("would", would);
        answered("day", day);
        answered("expired", expired);
        answered("then", then);
        answered("states", states);
        answered("today", today);
    }
}
