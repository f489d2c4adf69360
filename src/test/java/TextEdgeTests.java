import java.util.function.Supplier;

/** The edges of promises 1 to 6: bytes of the input buffer, tokens, grammar, and each kind of error. */
public final class TextEdgeTests extends Checks {
    private static final String HEAD = "market 9 9 50; fog 0 1 2;";
    private static final String STALL = "stall 50 red rough 5 0;";
    private static final String BUYER = "buyer 50 9 rough 1;";
    // The market is closed in this setup: its fog is thinner than the threshold.
    private static final String THREE = HEAD + STALL.repeat(3) + BUYER.repeat(3);
    private static final String[] COMMANDS = {
        "stall 1 red soft 1 1 ;", "buyer 1 1 soft 1 ;", "price 0 1 ;", "stock 0 1 ;", "lantern 0 red ;", "move 0 1 ;",
        "fog 0 1 ;", "back 0 ;", "minutes 1 ;"};
    private static final String[] VERBS = {"stall", "buyer", "price", "stock", "lantern", "move", "fog", "back", "minutes"};

    public static void main(String[] args) {
        aNewObjectHasNothingBeside();
        aNewObjectIsThatOfItsSetup();
        feedTakes700Bytes();
        feedTakesFewerThan20Bytes();
        feedSkipsZeroesInEachPlace();
        feedAppendsInOrder();
        feedRefusesAndAppendsNothing();
        theBufferIsEmptyAfterEachText();
        theLongestTexts();
        lettersDigitsAndBlanks();
        tokensNeedNoBlanksBetween();
        blanksStandAnywhere();
        numbersOfAnyLength();
        emptyTexts();
        rangesOfStall();
        rangesOfBuyer();
        rangesOfThePlainCommands();
        rangesOfIndices();
        rangeOfBack();
        rangesOfTheHead();
        indicesWithoutStallsAndBuyers();
        indicesOfSixStallsAndBuyers();
        indicesOfThePattern();
        eachCommandMayEndTooEarly();
        eachTokenOfACommandMayBeWrong();
        theHeadMayEndTooEarly();
        eachTokenOfTheHeadMayBeWrong();
        lanternsAndTexturesAreNotTheSame();
        stockUpTo99();
        stockBeyond99();
        backOfWhoHoldsNothing();
        twelveDensities();
        sixStalls();
        sixBuyers();
        fortyCommands();
        theSmallestCodeIsReported();
        theFirstTokenWithAnErrorIsReported();
        commandsAreExecutedAtTheirSemicolon();
        aSetupStartsAnew();
        aSetupWithAnErrorChangesNothing();
        aScriptWithAnErrorChangesNothing();
        aScriptIsOneChangeOfEight();
        theErrorOfTheLatestCall();
        end();
    }

    // ---- the helpers: a caret marks the first byte of the token that has the error

    private static FogBellMarket three() {
        return market(THREE);
    }

    private static void badScript(Supplier<FogBellMarket> recipe, int code, String marked) {
        FogBellMarket m = recipe.get();
        String before = m.undoCount() + " " + state(m);
        due("script " + marked, script(m, marked.replace("^", "")), -1);
        due("error of script " + marked, error(m), code + " at " + marked.indexOf('^'));
        due("input after script " + marked, inputLength(m), 0);
        due("market after script " + marked, m.undoCount() + " " + state(m), before);
    }

    private static void goodScript(Supplier<FogBellMarket> recipe, int commands, String text) {
        FogBellMarket m = recipe.get();
        int changes = m.undoCount();
        due("script " + text, script(m, text), commands);
        due("error of script " + text, error(m), "0 at -1");
        due("input after script " + text, inputLength(m), 0);
        due("changes after script " + text, m.undoCount(), changes + 1);
    }

    private static void badSetup(int code, String marked) {
        FogBellMarket m = busy();
        script(m, "");
        String before = m.undoCount() + " " + state(m);
        due("setup " + marked, setup(m, marked.replace("^", "")), -1);
        due("error of setup " + marked, error(m), code + " at " + marked.indexOf('^'));
        due("input after setup " + marked, inputLength(m), 0);
        due("market after setup " + marked, m.undoCount() + " " + state(m), before);
    }

    private static FogBellMarket goodSetup(int stalls, String text) {
        FogBellMarket m = new FogBellMarket();
        due("setup " + text, setup(m, text), stalls);
        due("error of setup " + text, error(m), "0 at -1");
        due("input after setup " + text, inputLength(m), 0);
        return m;
    }

    private static void bad(int code, String marked) {
        badScript(TextEdgeTests::three, code, marked);
        badSetup(code, THREE + marked);
    }

    private static void good(int commands, String text) {
        goodScript(TextEdgeTests::three, commands, text);
        goodSetup(3 + text.split("stall", -1).length - 1, THREE + text);
    }

    // ---- promise 1

    private static void aNewObjectHasNothingBeside() {
        FogBellMarket m = new FogBellMarket();
        due("input", inputLength(m), 0);
        due("output", output(m), "");
        due("error", error(m), "0 at -1");
        due("changes", m.undoCount(), 0);
        refused("undo", STATE, m::undo);
        refused("restore 0", NO_ELEMENT, () -> m.restore(0));
        refused("restore 1", NO_ELEMENT, () -> m.restore(1));
    }

    // Seven minutes by hand: the bell rings in the minute 5; buyer 0 is near stall 0, buyer 2 near stall 2.
    private static void aNewObjectIsThatOfItsSetup() {
        due("a new object", state(new FogBellMarket()), "7 open 2 waits 1 10 4 20 2 5 7 3 8 2 5 7 3 8 2 5"
            + "; at 30 lantern 0 texture 1 price 12 stock 4 4 held 1 sold 0 lost 0 for 0"
            + "; at 18 lantern 3 texture 2 price 7 stock 3 3 held 0 sold 0 lost 0 for 0"
            + "; at 55 lantern 2 texture 1 price 9 stock 1 1 held 1 sold 0 lost 0 for 0"
            + "; at 24 coins 40 holds 0 owes 12 avoids 0 bought 0 1 6; at 0 coins 6 holds -1 owes 0 avoids 0 bought 0 2 4"
            + "; at 46 coins 100 holds 2 owes 9 avoids 0 bought 0 1 9");
        String text = "market 4 20 10; fog 2 5 7 3 8; stall 30 red smooth 12 5; stall 18 white soft 7 3; stall 55 blue smooth 9 2;"
            + " buyer 25 40 smooth 6; buyer 0 6 soft 4; buyer 60 100 smooth 9; minutes 7;";
        due("story of a new object", story(FogBellMarket::new), story(() -> market(text)));
    }

    // ---- promise 2

    private static FogBellMarket fed(int length) {
        FogBellMarket m = new FogBellMarket();
        due("feed " + length + " bytes", feed(m, " ".repeat(length)), length);
        return m;
    }

    private static int feedMore(FogBellMarket m, int bytes) {
        int[] words = new int[5];
        for (int i = 0; i < bytes; i++) {
            words[i / 4] |= ' ' << 8 * (i % 4);
        }
        return m.feed(words[0], words[1], words[2], words[3], words[4]);
    }

    private static void feedTakes700Bytes() {
        for (int bytes = 1; bytes <= 20; bytes++) {
            due(bytes + " bytes up to 700", feedMore(fed(700 - bytes), bytes), 700);
            FogBellMarket m = fed(701 - bytes);
            due(bytes + " bytes up to 701", feedMore(m, bytes), -1);
            due("length after that", inputLength(m), 701 - bytes);
        }
    }

    private static void feedTakesFewerThan20Bytes() {
        FogBellMarket m = new FogBellMarket();
        int length = 0;
        for (int bytes = 0; bytes <= 20; bytes++) {
            length += bytes;
            due("feed " + bytes + " bytes", feedMore(m, bytes), length);
        }
    }

    private static int feedInPlace(FogBellMarket m, int place, int part) {
        int[] words = new int[5];
        words[place / 4] = part << 8 * (3 - place % 4);
        return m.feed(words[0], words[1], words[2], words[3], words[4]);
    }

    private static void feedSkipsZeroesInEachPlace() {
        FogBellMarket m = new FogBellMarket();
        due("only zeroes", m.feed(0, 0, 0, 0, 0), 0);
        String text = "move 1   98 ; move 2";
        for (int place = 0; place < 20; place++) {
            due("a byte in the place " + place, feedInPlace(m, place, text.charAt(place)), place + 1);
        }
        feed(m, " 7;");
        due("the script", m.runScript(), 2);
        due("what it did", m.positionOf(1) + " " + m.positionOf(2), "98 7");
        FogBellMarket bits = new FogBellMarket();
        due("the smallest bytes", bits.feed(0x01000001, 1, 0x00010000, 0x00000100, 0x01010101), 9);
        due("the greatest bytes", bits.feed(0xff000000, 0x00ff0000, 0x0000ff00, 0x000000ff, 0x80808080), 17);
    }

    private static void feedAppendsInOrder() {
        FogBellMarket m = new FogBellMarket();
        // "pric" "e 1 " "123;" "move" " 1 9", then "8;".
        due("feed of five", m.feed(0x70726963, 0x65203120, 0x3132333b, 0x6d6f7665, 0x20312039), 20);
        due("feed of one", m.feed(0, 0, 0x38003b, 0, 0), 22);
        due("the script", m.runScript(), 2);
        due("what it did", m.priceOf(1) + " " + m.positionOf(1), "123 98");
    }

    private static void feedRefusesAndAppendsNothing() {
        FogBellMarket m = new FogBellMarket();
        feed(m, " ".repeat(671) + "move 1 98;");
        due("length", inputLength(m), 681);
        due("20 bytes more", feed(m, "; nonsense nonsense!"), -1);
        due("length after that", inputLength(m), 681);
        due("19 bytes more", feed(m, "price 1 77 ;       "), 700);
        due("the script", m.runScript(), 2);
        due("what it did", m.positionOf(1) + " " + m.priceOf(1), "98 77");
        Supplier<FogBellMarket> nearlyFull = () -> {
            FogBellMarket busy = busy();
            due("length of the busy market's input", feed(busy, " ".repeat(672)), 681);
            return busy;
        };
        Supplier<FogBellMarket> refusedThen = () -> {
            FogBellMarket busy = nearlyFull.get();
            due("feed of 20 more", busy.feed(-1, -1, -1, -1, -1), -1);
            return busy;
        };
        due("what changed by the feed", story(refusedThen), story(nearlyFull));
    }

    private static void theBufferIsEmptyAfterEachText() {
        String[] texts = {"", "minutes 1;", "nonsense", THREE};
        for (String text : texts) {
            FogBellMarket m = new FogBellMarket();
            script(m, text);
            due("input after the script " + text, inputLength(m), 0);
            setup(m, text);
            due("input after the setup " + text, inputLength(m), 0);
        }
    }

    private static void theLongestTexts() {
        goodScript(FogBellMarket::new, 1, " ".repeat(690) + "move 1 98;");
        badScript(FogBellMarket::new, 1, " ".repeat(691) + "move 1 98^");
        badScript(FogBellMarket::new, 1, " ".repeat(699) + "^;");
        goodScript(FogBellMarket::new, 0, " ".repeat(700));
        due("a setup of 700 bytes", goodSetup(1, HEAD + " ".repeat(675 - STALL.length()) + STALL).stallCount(), 1);
        badSetup(1, " ".repeat(700) + "^");
    }

    // ---- tokens

    private static void lettersDigitsAndBlanks() {
        for (int part = 1; part <= 255; part++) {
            String text = "price 0 5" + (char) part;
            if (part == ' ' || part == 10) {
                due("price behind the byte " + part, priceAfter(text + ";"), 5);
            } else if (part >= '0' && part <= '9') {
                due("price with the byte " + part, priceAfter(text + ";"), 50 + part - '0');
            } else {
                due("the byte " + part, errorAfter(text), part == ';' ? "0 at -1" : "1 at 9");
            }
            due("the byte " + part + " in a word", errorAfter("pri" + (char) part + "ce 0 5;"), "1 at 0");
            due("the byte " + part + " before a word", errorAfter((char) part + "price 0 5;"),
                part == ' ' || part == 10 ? "0 at -1" : "1 at 0");
        }
    }

    private static int priceAfter(String text) {
        FogBellMarket m = three();
        script(m, text);
        return m.priceOf(0);
    }

    private static String errorAfter(String text) {
        FogBellMarket m = three();
        script(m, text);
        return error(m);
    }

    private static void tokensNeedNoBlanksBetween() {
        good(5, "stall1red soft1 1;price0 5;move 0 7;fog0 1;minutes1;");
        bad(1, "stall 1 ^redsoft 1 1;");
        bad(1, "^stallred 1;");
        bad(1, "price 01^;");
        bad(2, "price ^05;");
        bad(1, "^pr ice 0 5;");
        due("the price of 5", priceAfter("price 0 5;"), 5);
        bad(1, "price 0 5 ^0;");
    }

    private static void blanksStandAnywhere() {
        good(1, "  \n price \n\n 0   5 \n ;  \n");
        good(0, "\n");
        goodSetup(1, "\n\n market\n9\n9\n50\n;\nfog\n0\n;\n\nstall\n50\nred\nrough\n5\n0\n;\n\n");
        bad(1, "  ^nonsense  ");
        bad(1, "price 0 5  ^");
        bad(1, "price 0 5\n^");
        bad(2, "price \n 0 \n ^0 ;");
    }

    private static void numbersOfAnyLength() {
        due("many zeroes before a number", priceAfter("price 0 " + "0".repeat(600) + "7;"), 7);
        due("many zeroes for 0", priceAfter("price " + "0".repeat(600) + " 9;"), 9);
        badScript(TextEdgeTests::three, 2, "price 0 ^" + "0".repeat(600) + ";");
        badScript(TextEdgeTests::three, 2, "price 0 ^" + "9".repeat(650) + ";");
        badScript(TextEdgeTests::three, 2, "price 0 ^1" + "0".repeat(650) + ";");
        String[] numbers = {"65541", "2147483648", "2147483653", "4294967296", "4294967301", "8589934597", "9223372036854775808",
            "18446744073709551616", "18446744073709551621", "340282366920938463463374607431768211461", "100000", "1000000",
            "10000000005", "99999999995"};
        for (String number : numbers) {
            bad(2, "price 0 ^" + number + ";");
            bad(2, "price ^" + number + " 5;");
            bad(2, "minutes ^" + number + ";");
            bad(2, "buyer 1 ^" + number + " soft 1;");
        }
    }

    private static void emptyTexts() {
        goodScript(FogBellMarket::new, 0, "");
        goodScript(FogBellMarket::new, 0, " ");
        goodScript(TextEdgeTests::empty, 0, "");
        badSetup(1, "^");
        badSetup(1, "   ^");
        goodSetup(0, HEAD);
        due("a setup without commands", state(market(HEAD)), "0 closed 0 ready 0 50 9 9 0 1 2 0 1 2 0 1 2 0 1 2");
        due("an empty script alters nothing", state(after(three(), "")), state(three()));
    }

    private static FogBellMarket after(FogBellMarket m, String text) {
        script(m, text);
        return m;
    }

    // ---- ranges: # stands for the number

    interface Effect {
        int of(FogBellMarket m, int value);
    }

    private static void range(String text, int low, int high, Effect effect) {
        for (int value : new int[] {low, low + 1, high - 1, high}) {
            String good = text.replace("#", "" + value);
            good(1, good);
            due("effect of the script " + good, effect.of(after(three(), good), value), value);
            due("effect of the setup " + good, effect.of(market(THREE + good), value), value);
            good(1, text.replace("#", "000" + value));
        }
        if (low > 0) {
            bad(2, text.replace("#", "^" + (low - 1)));
        }
        bad(1, text.replace("#", "^-1"));
        bad(2, text.replace("#", "^" + (high + 1)));
        bad(2, text.replace("#", "^" + (4294967296L + low)));
    }

    private static void rangesOfStall() {
        range("stall # red soft 1 1;", 0, 99, (m, v) -> m.positionOf(3));
        range("stall 1 red soft # 1;", 1, 999, (m, v) -> m.priceOf(3));
        range("stall 1 red soft 1 #;", 0, 99, (m, v) -> m.stockOf(3));
    }

    private static void rangesOfBuyer() {
        range("buyer # 1 soft 1;", 0, 99, (m, v) -> m.placeOf(3));
        range("buyer 1 # soft 1;", 0, 9999, (m, v) -> m.coinsOf(3));
        range("buyer 1 1 soft #;", 1, 20, (m, v) -> m.speedOf(3));
    }

    private static void rangesOfThePlainCommands() {
        range("price 1 #;", 1, 999, (m, v) -> m.priceOf(1));
        range("stock 1 #;", 0, 99, (m, v) -> m.stockOf(1));
        range("move 1 #;", 0, 99, (m, v) -> m.positionOf(1));
        range("fog 1 #;", 0, 9, (m, v) -> m.fogIn(5));
        range("minutes #;", 1, 100, (m, v) -> m.minute());
    }

    private static void rangesOfIndices() {
        range("price # 77;", 0, 2, (m, v) -> m.priceOf(v) == 77 ? v : -77);
        range("stock # 7;", 0, 2, (m, v) -> m.stockOf(v) == 7 ? v : -77);
        range("lantern # blue;", 0, 2, (m, v) -> m.lanternOf(v) == 2 ? v : -77);
        range("move # 7;", 0, 2, (m, v) -> m.positionOf(v) == 7 ? v : -77);
        range("fog # 7;", 0, 2, (m, v) -> m.fogIn(5 * v) == 7 ? v : -77);
    }

    // Three of six buyers have a good after the first minute; the others want another texture.
    private static final String HOLDERS = "market 1 9 50; fog 1; stall 50 red rough 1 9;" + BUYER.repeat(3)
        + "buyer 50 9 soft 1;".repeat(3) + "minutes 1;";

    private static void rangeOfBack() {
        for (int buyer = 0; buyer <= 2; buyer++) {
            FogBellMarket m = market(HOLDERS);
            due("back " + buyer, script(m, "back " + buyer + ";"), 1);
            due("who put it back", m.heldFrom(buyer) + " " + m.avoidedBy(buyer) + " " + m.stockOf(0), "-1 1 7");
            badScript(() -> market(HOLDERS), 3, "back ^" + (buyer + 3) + ";");
        }
        badScript(() -> market(HOLDERS), 2, "back ^6;");
        badScript(() -> market(HOLDERS), 1, "back ^-1;");
        badScript(TextEdgeTests::three, 2, "back ^3;");
        badScript(TextEdgeTests::three, 3, "back ^2;");
        badScript(TextEdgeTests::three, 3, "back ^0;");
    }

    private static void headRange(String text, int low, int high, Effect effect) {
        for (int value : new int[] {low, low + 1, high - 1, high}) {
            FogBellMarket m = goodSetup(0, text.replace("#", "" + value));
            due("effect of " + text + " with " + value, effect.of(m, value), value);
            goodSetup(0, text.replace("#", "000" + value));
        }
        if (low > 0) {
            badSetup(2, text.replace("#", "^" + (low - 1)));
        }
        badSetup(1, text.replace("#", "^-1"));
        badSetup(2, text.replace("#", "^" + (high + 1)));
        badSetup(2, text.replace("#", "^" + (4294967296L + low)));
    }

    private static void rangesOfTheHead() {
        headRange("market # 9 9; fog 9;", 1, 9, (m, v) -> m.threshold());
        headRange("market 9 # 9; fog 9;", 1, 60, (m, v) -> m.duration());
        headRange("market 9 9 #; fog 9;", 0, 99, (m, v) -> m.bellPosition());
        headRange("market 9 9 9; fog #;", 0, 9, (m, v) -> m.fogIn(0));
        headRange("market 9 9 9; fog 5 #;", 0, 9, (m, v) -> m.fogIn(5));
        headRange("market 9 9 9; fog 0 1 2 3 4 5 6 7 8 9 0 #;", 0, 9, (m, v) -> m.fogIn(59));
    }

    private static void indicesWithoutStallsAndBuyers() {
        badScript(TextEdgeTests::empty, 2, "price ^0 1;");
        badScript(TextEdgeTests::empty, 2, "stock ^0 1;");
        badScript(TextEdgeTests::empty, 2, "lantern ^0 red;");
        badScript(TextEdgeTests::empty, 2, "move ^0 1;");
        badScript(TextEdgeTests::empty, 2, "back ^0;");
        badSetup(2, "market 5 5 50; fog 5; price ^0 1;");
        badSetup(2, "market 5 5 50; fog 5; back ^0;");
    }

    private static void indicesOfSixStallsAndBuyers() {
        goodScript(TextEdgeTests::full, 4, "price 5 1; stock 5 0; lantern 5 red; move 5 1;");
        badScript(TextEdgeTests::full, 2, "price ^6 1;");
        badScript(TextEdgeTests::full, 2, "stock ^6 0;");
        badScript(TextEdgeTests::full, 2, "lantern ^6 red;");
        badScript(TextEdgeTests::full, 2, "move ^6 1;");
        badScript(TextEdgeTests::full, 3, "back ^5;");
        badScript(TextEdgeTests::full, 2, "back ^6;");
    }

    private static void indicesOfThePattern() {
        goodScript(TextEdgeTests::empty, 1, "fog 0 9;");
        badScript(TextEdgeTests::empty, 2, "fog ^1 9;");
        goodScript(TextEdgeTests::full, 1, "fog 11 9;");
        badScript(TextEdgeTests::full, 2, "fog ^12 9;");
    }

    // ---- grammar

    private static String join(String[] tokens, int from, int to) {
        StringBuilder text = new StringBuilder();
        for (int i = from; i < to; i++) {
            text.append(tokens[i]).append(' ');
        }
        return text.toString();
    }

    private static void eachCommandMayEndTooEarly() {
        for (String command : COMMANDS) {
            String[] tokens = command.split(" ");
            // "back 0" has an error of its own: nobody holds a good.
            int last = command.startsWith("back") ? 1 : tokens.length - 1;
            for (int count = 1; count <= last; count++) {
                bad(1, join(tokens, 0, count).trim() + "^");
                bad(1, join(tokens, 0, count) + "^");
                bad(1, join(tokens, 0, count) + " \n^");
                bad(1, "price 0 1;" + join(tokens, 0, count) + "^");
            }
        }
    }

    private static String[] wrongFor(String token) {
        if (token.equals(";")) {
            return new String[] {"0", "1", "red", "price", "zebra", "#", "Z"};
        }
        if (Character.isDigit(token.charAt(0))) {
            return new String[] {";", "red", "price", "zebra", "#", "-1", "+1", ".5"};
        }
        return new String[] {";", "0", "1", "zebra", "#", token + "s", token.substring(1), token.toUpperCase(), "market"};
    }

    private static void eachTokenOfACommandMayBeWrong() {
        for (String command : COMMANDS) {
            String[] tokens = command.split(" ");
            int last = command.startsWith("back") ? 1 : tokens.length - 1;
            for (int at = 0; at <= last; at++) {
                for (String other : wrongFor(tokens[at])) {
                    bad(1, join(tokens, 0, at) + "^" + other + " " + join(tokens, at + 1, tokens.length));
                    bad(1, join(tokens, 0, at) + "^" + other);
                }
            }
        }
        bad(1, "^;");
        bad(1, "price 0 1;^;");
        bad(1, "^market 9 9 9; fog 9;");
    }

    private static void theHeadMayEndTooEarly() {
        String[] tokens = "market 9 9 50 ; fog 0 1 ;".split(" ");
        for (int count = 0; count < tokens.length; count++) {
            badSetup(1, join(tokens, 0, count).trim() + "^");
            badSetup(1, join(tokens, 0, count) + "^");
            badSetup(1, join(tokens, 0, count) + " \n^");
        }
        goodSetup(0, join(tokens, 0, tokens.length));
    }

    private static void eachTokenOfTheHeadMayBeWrong() {
        String[] tokens = "market 9 9 50 ; fog 0 1 ;".split(" ");
        for (int at = 0; at < tokens.length; at++) {
            for (String other : wrongFor(tokens[at])) {
                // Behind a density, a number is one more density, and a semicolon ends the fog.
                boolean allowed = at == 8 && Character.isDigit(other.charAt(0)) || at == 7 && other.equals(";")
                    || other.equals(tokens[at]);
                if (!allowed) {
                    badSetup(1, join(tokens, 0, at) + "^" + other + " " + join(tokens, at + 1, tokens.length));
                }
            }
        }
        badSetup(1, "market 9 9 50; fog ^;");
        badSetup(1, "market 9 9 50; fog 0;^;");
        badSetup(1, "market 9 9 50; fog 0; ^market 9 9 50; fog 0;");
        badSetup(1, "market 9 9 50; ^price 0 1;");
        badSetup(1, "^price 0 1;");
    }

    private static void lanternsAndTexturesAreNotTheSame() {
        String[] lanterns = {"red", "green", "blue", "white"};
        String[] textures = {"rough", "smooth", "soft"};
        for (int i = 0; i < 4; i++) {
            due("lantern " + lanterns[i], after(three(), "lantern 0 " + lanterns[i] + ";").lanternOf(0), i);
            due("stall with " + lanterns[i], after(three(), "stall 1 " + lanterns[i] + " soft 1 1;").lanternOf(3), i);
            bad(1, "stall 1 red ^" + lanterns[i] + " 1 1;");
            bad(1, "buyer 1 1 ^" + lanterns[i] + " 1;");
        }
        for (int i = 0; i < 3; i++) {
            due("stall of " + textures[i], after(three(), "stall 1 red " + textures[i] + " 1 1;").textureOf(3), i);
            due("buyer of " + textures[i], after(three(), "buyer 1 1 " + textures[i] + " 1;").wantedTexture(3), i);
            bad(1, "stall 1 ^" + textures[i] + " soft 1 1;");
            bad(1, "lantern 0 ^" + textures[i] + ";");
        }
    }

    // ---- states

    private static void stockUpTo99() {
        good(3, "stock 0 98; stock 0 1; stock 0 0;");
        good(2, "stock 0 99; stock 1 99;");
        good(2, "stall 1 red soft 1 99; stock 3 0;");
        bad(3, "stock 0 98; stock 0 ^2;");
        bad(3, "stock 0 99; stock 0 ^1;");
        bad(3, "stock 0 1; stock 0 ^99;");
        bad(3, "stall 1 red soft 1 99; stock 3 ^1;");
        bad(3, "stock 0 99; stock 0 ^0001");
    }

    // The bell or "back" may bring the stock above 99: nothing at all comes to it then.
    private static void stockBeyond99() {
        String hundred = "market 1 9 50; fog 1; stall 50 red rough 1 99;" + BUYER + "minutes 1; stock 0 1; back 0;";
        due("the stock", market(hundred).stockOf(0), 100);
        badScript(() -> market(hundred), 3, "stock 0 ^0;");
        badScript(() -> market(hundred), 3, "stock 0 ^1;");
        badScript(() -> market(hundred), 2, "stock 0 ^100;");
    }

    private static void backOfWhoHoldsNothing() {
        goodScript(() -> market(HOLDERS), 2, "back 0; back 1;");
        badScript(() -> market(HOLDERS), 3, "back 0; back ^0;");
        badScript(() -> market(HOLDERS), 3, "back ^3;");
        badScript(() -> market(HOLDERS), 3, "back ^3");
        badSetup(3, HOLDERS + "back 0; back ^0;");
    }

    // ---- limits

    private static void twelveDensities() {
        String twelve = "market 9 9 50; fog 0 1 2 3 4 5 6 7 8 9 8 7";
        due("the twelfth", goodSetup(0, twelve + ";").fogIn(59), 7);
        due("begins anew behind it", goodSetup(0, twelve + ";").fogIn(60), 0);
        for (String thirteenth : new String[] {"^0;", "^9;", "^5 5;", "^0", "^009 nonsense"}) {
            badSetup(4, twelve + " " + thirteenth);
        }
        badSetup(2, twelve + " ^10;");
        badSetup(1, twelve + " ^red;");
        badSetup(1, twelve + " ^-1;");
        badSetup(1, twelve + "^");
    }

    private static void sixStalls() {
        good(3, STALL.repeat(3));
        bad(4, STALL.repeat(3) + "^" + STALL);
        bad(4, STALL.repeat(3) + "^stall");
        bad(4, STALL.repeat(3) + "^stall nonsense");
        bad(1, STALL.repeat(3) + "^stalls");
        badScript(TextEdgeTests::full, 4, "^" + STALL);
        badScript(TextEdgeTests::full, 4, "price 0 1; ^stall 100");
        goodSetup(6, HEAD + STALL.repeat(6));
        badSetup(4, HEAD + STALL.repeat(6) + " ^" + STALL);
        FogBellMarket m = after(three(), STALL.repeat(3));
        due("a seventh by another script", script(m, STALL), -1);
        m.undo();
        due("three again after undo", script(m, STALL.repeat(3)), 3);
    }

    private static void sixBuyers() {
        good(3, BUYER.repeat(3));
        bad(4, BUYER.repeat(3) + "^" + BUYER);
        bad(4, BUYER.repeat(3) + "^buyer");
        bad(4, BUYER.repeat(3) + "^buyer nonsense");
        bad(1, BUYER.repeat(3) + "^buyers");
        badScript(TextEdgeTests::full, 4, "^" + BUYER);
        badScript(TextEdgeTests::full, 4, "price 0 1; ^buyer 100");
        due("six buyers", goodSetup(0, HEAD + BUYER.repeat(6)).buyerCount(), 6);
        badSetup(4, HEAD + BUYER.repeat(6) + " ^" + BUYER);
        FogBellMarket m = after(three(), BUYER.repeat(3));
        due("a seventh by another script", script(m, BUYER), -1);
        m.undo();
        due("three again after undo", script(m, BUYER.repeat(3)), 3);
    }

    private static void fortyCommands() {
        String forty = "move 0 1;".repeat(40);
        String moved = HEAD + STALL + "move 0 1;".repeat(39);
        goodScript(TextEdgeTests::three, 39, "move 0 1;".repeat(39));
        goodScript(TextEdgeTests::three, 40, forty);
        goodScript(TextEdgeTests::three, 40, forty + " \n");
        goodSetup(1, moved);
        goodSetup(1, moved + " \n");
        for (String verb : VERBS) {
            badScript(TextEdgeTests::three, 4, forty + "^" + verb);
            badScript(TextEdgeTests::three, 4, forty + " ^" + verb + " nonsense");
            badSetup(4, moved + "^" + verb);
        }
        for (String other : new String[] {"zebra", "moves", "mov", "red", "market", "1", ";", "#"}) {
            badScript(TextEdgeTests::three, 1, forty + "^" + other);
            badSetup(1, moved + "^" + other);
        }
        FogBellMarket m = after(three(), forty);
        due("forty more in the next script", script(m, forty), 40);
    }

    private static void theSmallestCodeIsReported() {
        bad(2, "stock 0 99; stock 0 ^100;");
        bad(1, "stock 0 99; stock 0 ^red;");
        bad(2, "back ^3;");
        bad(1, "back ^red;");
        badSetup(2, "market 9 9 9; fog 0 1 2 3 4 5 6 7 8 9 8 7 ^99999999999;");
        badScript(TextEdgeTests::full, 1, "^zebra");
        badScript(TextEdgeTests::three, 4, STALL.repeat(3) + "move 0 1;".repeat(37) + "^stall");
    }

    private static void theFirstTokenWithAnErrorIsReported() {
        bad(2, "price 0 ^0 nonsense");
        bad(2, "price ^3 0;");
        bad(2, "stall ^100 rough soft 0 100");
        bad(1, "stall 1 ^rough red 0 100");
        bad(2, "minutes ^0; back 0; nonsense");
        bad(3, "back ^0 nonsense");
        badSetup(2, "market ^0 0 100; fog 10;");
        badSetup(2, "market 9 ^0 100; fog 10;");
    }

    private static void commandsAreExecutedAtTheirSemicolon() {
        bad(1, STALL + "price 3 7; stock 3 7 ^price");
        good(3, STALL + "price 3 7; stock 3 7;");
        bad(2, "price ^3 7;" + STALL);
        due("a new stall is changed", stall(after(three(), STALL + "price 3 7; stock 3 8;"), 3),
            "at 50 lantern 0 texture 0 price 7 stock 8");
        String sale = "market 1 9 50; fog 1; stall 50 red rough 1 9;" + BUYER;
        goodScript(() -> market(sale), 2, "minutes 1; back 0;");
        badScript(() -> market(sale), 3, "back ^0; minutes 1;");
        badScript(() -> market(sale), 3, "minutes 2; back ^0;");
    }

    // ---- promises 3 to 6: what a text changes

    private static void aSetupStartsAnew() {
        Supplier<FogBellMarket> busyBefore = () -> after(busy(), "");
        FogBellMarket m = busyBefore.get();
        due("stalls", setup(m, THREE), 3);
        due("the new market", state(m), state(three()));
        due("changes", m.undoCount(), 0);
        refused("undo", STATE, m::undo);
        refused("restore 0", NO_ELEMENT, () -> m.restore(0));
        refused("restore 1", NO_ELEMENT, () -> m.restore(1));
        due("the output stands", output(m), output(busyBefore.get()));
        due("no stall", setup(m, HEAD), 0);
        due("six stalls", setup(m, HEAD + STALL.repeat(6)), 6);
        m.setPrice(0, 1);
        due("undo behind a setup", m.undo(), 0);
    }

    private static void aSetupWithAnErrorChangesNothing() {
        String[] texts = {"", "nonsense", "market 9 9 9; fog 9;;", HEAD + "price 0 1;", THREE + "minutes 100; back 0;",
            HEAD + STALL.repeat(7), HEAD + "minutes 1;".repeat(41)};
        for (String text : texts) {
            Supplier<FogBellMarket> busyBefore = () -> after(busy(), "");
            Supplier<FogBellMarket> busyAfter = () -> {
                FogBellMarket m = busyBefore.get();
                due("setup " + text, setup(m, text), -1);
                return m;
            };
            due("what changed by " + text, storyBesideTexts(busyAfter), storyBesideTexts(busyBefore));
        }
    }

    private static void aScriptWithAnErrorChangesNothing() {
        String work = "stall 1 red soft 1 1; buyer 1 1 soft 1; price 0 1; stock 0 1; lantern 0 white; move 0 1; fog 0 1; back 0;"
            + "minutes 30;";
        String[] errors = {"^", "nonsense", ";", "price 0 0;", "back 0;", "stock 1 99;", STALL.repeat(4), BUYER.repeat(4),
            "minutes 1;".repeat(32), "price 0 1"};
        for (String error : errors) {
            Supplier<FogBellMarket> busyBefore = () -> after(busy(), "");
            Supplier<FogBellMarket> busyAfter = () -> {
                FogBellMarket m = busyBefore.get();
                due("script with " + error, script(m, work + error), -1);
                return m;
            };
            due("what changed by " + error, storyBesideTexts(busyAfter), storyBesideTexts(busyBefore));
        }
        goodScript(() -> after(busy(), ""), 9, work);
    }

    private static void aScriptIsOneChangeOfEight() {
        FogBellMarket m = three();
        for (int i = 1; i <= 9; i++) {
            due("commands of script " + i, script(m, "price 0 " + i + "; price 1 " + i + ";"), 2);
            due("changes after script " + i, m.undoCount(), Math.min(i, 8));
        }
        for (int left = 7; left >= 0; left--) {
            due("undo of a script", m.undo(), left);
            due("prices then", m.priceOf(0) + " " + m.priceOf(1), (left + 1) + " " + (left + 1));
        }
        refused("undo of the ninth", STATE, m::undo);
    }

    private static void theErrorOfTheLatestCall() {
        FogBellMarket m = three();
        String[] texts = {"", "price 0 1;;", "", "price 0 0;", "", "back 0;", "", STALL.repeat(4), ""};
        String[] errors = {"0 at -1", "1 at 10", "0 at -1", "2 at 8", "0 at -1", "3 at 5", "0 at -1", "4 at " + 3 * STALL.length(),
            "0 at -1"};
        for (int i = 0; i < texts.length; i++) {
            script(m, texts[i]);
            due("error of the script " + texts[i], error(m), errors[i]);
        }
        setup(m, "market 0");
        due("error of a setup", error(m), "2 at 7");
        setup(m, HEAD);
        due("no error of a setup", error(m), "0 at -1");
        feed(m, "nonsense");
        due("no text was read yet", error(m), "0 at -1");
    }
}
