import java.io.IOException;
import java.nio.file.Files;
import java.nio.file.Path;
import java.util.ArrayList;
import java.util.List;
import java.util.regex.Matcher;
import java.util.regex.Pattern;

/** The README's lines of code: they stand here, too, and answer what is told behind them. */
public final class UseTest extends Bench {

    private static void use() {
        AccountDay x = new AccountDay();
        int seller = x.man(1000, 30);
        int buyer = x.man(500, 50);
        int stock = x.stock();
        x.hold(seller, stock, 20);
        int b = x.bargain(100 * seller + buyer, stock, 20, 60);
        x.mark(b, seller);
        due(12, "mark", x.mark(b, buyer), 1);
        due(26, "run", x.run(13), 1);
        due(8, "coin", x.coin(seller, 0), 1500);
        due(7, "look", x.look(buyer, 0), 0);
        due(14, "of", x.of(b, 7), 2);
        rules(x, stock);
        images(x);
        refusals(x, buyer);
    }

    private static void rules(AccountDay x, int stock) {
        String text = "late 10 if made>50";
        for (int i = 0; i < text.length(); i++) x.feed(text.charAt(i), 1);
        due(23, "rule", x.rule(0, 1000), 0);
        due(24, "says", x.says(2, stock), 10);
        x.feed('?', 1);
        due(23, "rule", x.rule(0, 1000), -10);
        due(22, "wipe", x.wipe(), 1);
    }

    private static void images(AccountDay x) {
        due(37, "image", x.image(), 13);
        x.run(14);
        due(38, "back", x.back(), 13);
    }

    private static void refusals(AccountDay x, int buyer) {
        due(5, "lend", x.lend(buyer, 100), AccountDay.NO);
        due(8, "coin", x.coin(99, 0), 0);
        due(44, "status", x.status(AccountDay.BEYOND), 1);
    }

    /** The README's lines of code, without what is told behind them. */
    private static List<String> linesOf(String readme) {
        List<String> lines = new ArrayList<>();
        Matcher blocks = Pattern.compile("(?s)```java\n(.*?)```").matcher(readme);
        while (blocks.find()) {
            for (String line : blocks.group(1).split("\n")) lines.add(line.replaceAll("//.*", "").replaceAll("; *$", "").trim());
        }
        return lines;
    }

    private static void readme() throws IOException {
        String here = Files.readString(Path.of("src/test/java/UseTest.java"));
        List<String> lines = linesOf(Files.readString(Path.of("README.md")));
        due(1, "there are lines of code", lines.size() > 20 ? 1 : 0, 1);
        for (String line : lines) due(1, "README's line stands in UseTest: " + line, here.contains(line) ? 1 : 0, 1);
    }

    public static void main(String[] args) throws IOException {
        use();
        readme();
        end("UseTest");
    }
}
