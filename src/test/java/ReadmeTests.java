import java.io.IOException;
import java.nio.file.Files;
import java.nio.file.Path;
import java.util.HashMap;
import java.util.HashSet;
import java.util.Map;
import java.util.Set;
import java.util.function.Function;
import java.util.regex.Matcher;
import java.util.regex.Pattern;

/** Every answer that README.md tells, line by line, each example on a new object. */
public final class ReadmeTests extends Checks {
    private static final String NEW = "FogBellMarket market = new FogBellMarket();";
    private static final Pattern LINE = Pattern.compile("market\\.(\\w+\\(.*?\\)); *// (throws \\w+|[^:]+)(:.*)?");
    private static final Map<String, Function<FogBellMarket, Object>> CALLS = new HashMap<>();

    public static void main(String[] args) throws IOException {
        tellTheCalls();
        Set<String> asked = new HashSet<>();
        FogBellMarket market = null;
        boolean inExample = false;
        for (String line : Files.readAllLines(Path.of("README.md"))) {
            if (line.startsWith("```")) {
                inExample = line.equals("```java");
            } else if (inExample && line.equals(NEW)) {
                market = new FogBellMarket();
            } else if (inExample) {
                asked.add(ask(market, line));
            }
        }
        due("the calls that the README asks", asked, CALLS.keySet());
        end();
    }

    private static String ask(FogBellMarket market, String line) {
        Matcher parts = LINE.matcher(line);
        if (market == null || !parts.matches() || !CALLS.containsKey(parts.group(1))) {
            due("a line that this test knows", line, "market.<a call of this test>; // <its answer>");
            return line;
        }
        due(line, outcome(market, CALLS.get(parts.group(1))), parts.group(2));
        return parts.group(1);
    }

    private static Object outcome(FogBellMarket market, Function<FogBellMarket, Object> call) {
        try {
            return call.apply(market);
        } catch (RuntimeException thrown) {
            return "throws " + thrown.getClass().getSimpleName();
        }
    }

    // The calls stand here a second time, as Java, since the README's text can't be run.
    private static void tellTheCalls() {
        CALLS.put("minute()", FogBellMarket::minute);
        CALLS.put("isOpen()", FogBellMarket::isOpen);
        CALLS.put("minutesToEnd()", FogBellMarket::minutesToEnd);
        CALLS.put("nextPayer()", FogBellMarket::nextPayer);
        CALLS.put("minutesToPay(0)", m -> m.minutesToPay(0));
        CALLS.put("passMinutes(3)", m -> m.passMinutes(3));
        CALLS.put("passMinutes(100)", m -> m.passMinutes(100));
        CALLS.put("earnings(0)", m -> m.earnings(0));
        CALLS.put("meanPaid()", FogBellMarket::meanPaid);
        CALLS.put("bestPrice(0)", m -> m.bestPrice(0));
        CALLS.put("priceOf(0)", m -> m.priceOf(0));
        CALLS.put("priceOf(3)", m -> m.priceOf(3));
        CALLS.put("addStall(40, 2, 1, 8, 20)", m -> m.addStall(40, 2, 1, 8, 20));
        CALLS.put("addBuyer(45, 60, 1, 5)", m -> m.addBuyer(45, 60, 1, 5));
        CALLS.put("setPrice(3, 9)", m -> m.setPrice(3, 9));
        CALLS.put("setPrice(0, 1000)", m -> m.setPrice(0, 1000));
        CALLS.put("addStock(0, 96)", m -> m.addStock(0, 96));
        CALLS.put("undoCount()", FogBellMarket::undoCount);
        CALLS.put("undo()", FogBellMarket::undo);
        CALLS.put("save(1)", m -> m.save(1));
        CALLS.put("restore(0)", m -> m.restore(0));
        CALLS.put("restore(1)", m -> m.restore(1));
        int[][] texts = {{0x70726963, 0x65203020, 0x35303b00, 0, 0}, {0x70726963, 0x65203020, 0x303b0000, 0, 0},
            {0x6d61726b, 0x65742031, 0x20322033, 0x3b666f67, 0x20343b00}};
        for (int[] w : texts) {
            CALLS.put("feed(" + hex(w[0]) + ", " + hex(w[1]) + ", " + hex(w[2]) + ", " + hex(w[3]) + ", " + hex(w[4]) + ")",
                m -> m.feed(w[0], w[1], w[2], w[3], w[4]));
        }
        CALLS.put("runScript()", FogBellMarket::runScript);
        CALLS.put("loadSetup()", FogBellMarket::loadSetup);
        CALLS.put("errorCode()", FogBellMarket::errorCode);
        CALLS.put("errorPosition()", FogBellMarket::errorPosition);
        CALLS.put("bellPosition()", FogBellMarket::bellPosition);
        CALLS.put("writeRope()", FogBellMarket::writeRope);
        for (int index : new int[] {1, 10, 18, 24}) {
            CALLS.put("outputByte(" + index + ")", m -> m.outputByte(index));
        }
    }

    private static String hex(int word) {
        return word == 0 ? "0" : "0x" + Integer.toHexString(word);
    }
}
