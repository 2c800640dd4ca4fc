import java.io.IOException;
import java.nio.charset.StandardCharsets;
import java.nio.file.Files;
import java.nio.file.Path;
import java.util.HashMap;
import java.util.Map;
import java.util.Set;
import java.util.regex.Matcher;
import java.util.regex.Pattern;

/** The examples of README.md are made here in their order, and answer what their comments say. */
public final class ReadmeTest {
    /** A row of an example with the answer at the head of its comment. */
    private static final Pattern ROW = Pattern.compile("(?:int \\w+ = )?(loop\\.\\w+\\(.*?\\)); *// (-?[0-9.]+).*");
    private static final Pattern TEXT = Pattern.compile("for \\(char c : \"(.*)\"\\.toCharArray\\(\\)\\) \\{");
    /** A row that needs no look: the object is there, and the text is written as a whole. */
    private static final Set<String> PLAIN = Set.of("BottleLoop loop = new BottleLoop();", "    loop.append(c);", "}");

    private final Checks checks = new Checks();
    private final BottleLoop loop = new BottleLoop();
    private final Map<String, Checks.Call> calls = new HashMap<>();
    private int made;

    private ReadmeTest() {
        calls.put("loop.addBrand(0, 100)", () -> loop.addBrand(0, 100));
        calls.put("loop.addShop(5000)", () -> loop.addShop(5000));
        calls.put("loop.buyCrates(6)", () -> loop.buyCrates(6));
        calls.put("loop.fill(brand, 45)", () -> loop.fill(0, 45));
        calls.put("loop.deliver(brand, shop, 3)", () -> loop.deliver(0, 0, 3));
        calls.put("loop.sell(shop, brand, 20)", () -> loop.sell(0, 0, 20));
        calls.put("loop.takeBack(shop, brand, 12)", () -> loop.takeBack(0, 0, 12));
        calls.put("loop.collect(shop, 0, 1)", () -> loop.collect(0, 0, 1));
        calls.put("loop.sort(0, 12)", () -> loop.sort(0, 12));
        calls.put("loop.undo()", loop::undo);
        calls.put("loop.brand(brand, 6)", () -> loop.brand(0, 6));
        calls.put("loop.shop(shop, 0)", () -> loop.shop(0, 0));
        calls.put("loop.shop(shop, 10)", () -> loop.shop(0, 10));
        calls.put("loop.count(4)", () -> loop.count(4));
        calls.put("loop.setting(5)", () -> loop.setting(5));
        calls.put("loop.firstError()", loop::firstError);
        calls.put("loop.run()", loop::run);
        calls.put("loop.count(9)", () -> loop.count(9));
        calls.put("loop.mostCrates(brand, shop)", () -> loop.mostCrates(0, 0));
        calls.put("loop.whyNotDeliver(brand, shop, 1)", () -> loop.whyNotDeliver(0, 0, 1));
        calls.put("loop.filled(brand, 20)", () -> loop.filled(0, 20));
        calls.put("loop.bestShop(0)", () -> loop.bestShop(0));
        calls.put("loop.goneShare()", loop::goneShare);
    }

    public static void main(String[] args) throws IOException {
        ReadmeTest test = new ReadmeTest();
        test.examples(Files.readString(Path.of("README.md"), StandardCharsets.UTF_8));
        test.checks.end();
    }

    private void examples(String readme) {
        checks.begin("README.md");
        boolean inside = false;
        for (String row : readme.split("\n")) {
            boolean fence = row.startsWith("```");
            if (inside && !fence) {
                row(row);
            }
            inside = fence ? row.equals("```java") : inside;
        }
        checks.same("calls", made, calls.size());
    }

    private void row(String row) {
        Matcher call = ROW.matcher(row);
        Matcher text = TEXT.matcher(row);
        if (call.matches() && calls.containsKey(call.group(1))) {
            checks.answers(call.group(1), call.group(2), calls.get(call.group(1)));
            made++;
        } else if (text.matches()) {
            Scenes.write(loop, text.group(1));
        } else if (!PLAIN.contains(row)) {
            checks.fail("no call is known for this row: " + row);
        }
    }
}
