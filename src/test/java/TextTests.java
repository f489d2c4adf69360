/** Tests of promises 1 to 6: the new object, the input buffer, setups, scripts and their errors. */
public final class TextTests extends Checks {
    private static final String FIRST_SETUP = "market 4 20 10; fog 2 5 7 3 8; stall 30 red smooth 12 5; "
        + "stall 18 white soft 7 3; stall 55 blue smooth 9 2; buyer 25 40 smooth 6; buyer 0 6 soft 4; "
        + "buyer 60 100 smooth 9; minutes 7;";

    public static void main(String[] args) {
        promise1NewObject();
        promise2FeedKeepsTheOrderOfBytes();
        promise2FeedSkipsZeroes();
        promise2FeedHolds700Bytes();
        promise3SetupReplacesTheMarket();
        promise3SetupForgetsChangesAndSaves();
        promise3SetupWithAnError();
        promise4ScriptDoesAllCommands();
        promise4ScriptIsOneChange();
        promise4ScriptWithAnError();
        promise4CommandsGoByWhatTheOnesBeforeDid();
        promise5And6NoCallYet();
        promise5And6LatestCall();
        syntaxErrorsOfScripts();
        rangeErrorsOfScripts();
        stateErrorsOfScripts();
        limitErrorsOfScripts();
        goodScripts();
        errorsOfSetups();
        goodSetups();
        end();
    }

    // ---- the helpers

    /** The caret marks the first byte of the token that has the error. */
    private static void badScript(FogBellMarket m, int code, String marked) {
        String before = describe(m);
        due("script " + marked, script(m, marked.replace("^", "")), -1);
        due("error code of " + marked, m.errorCode(), code);
        due("error position of " + marked, m.errorPosition(), marked.indexOf('^'));
        due("input after " + marked, inputLength(m), 0);
        due("market after " + marked, describe(m), before);
    }

    private static void badScript(int code, String marked) {
        badScript(new FogBellMarket(), code, marked);
    }

    private static void goodScript(int commands, String text) {
        FogBellMarket m = new FogBellMarket();
        due("script " + text, script(m, text), commands);
        due("error code of " + text, m.errorCode(), 0);
        due("error position of " + text, m.errorPosition(), -1);
        due("changes after " + text, m.undoCount(), 1);
        due("input after " + text, inputLength(m), 0);
    }

    private static void badSetup(int code, String marked) {
        FogBellMarket m = new FogBellMarket();
        String before = describe(m);
        due("setup " + marked, setup(m, marked.replace("^", "")), -1);
        due("error code of " + marked, m.errorCode(), code);
        due("error position of " + marked, m.errorPosition(), marked.indexOf('^'));
        due("input after " + marked, inputLength(m), 0);
        due("market after " + marked, describe(m), before);
    }

    private static FogBellMarket goodSetup(int stalls, String text) {
        FogBellMarket m = new FogBellMarket();
        due("setup " + text, setup(m, text), stalls);
        due("error code of " + text, m.errorCode(), 0);
        due("error position of " + text, m.errorPosition(), -1);
        due("input after " + text, inputLength(m), 0);
        due("changes after " + text, m.undoCount(), 0);
        return m;
    }

    private static String describe(FogBellMarket m) {
        StringBuilder all = new StringBuilder();
        all.append(m.minute()).append(' ').append(m.bellPosition()).append(' ').append(m.threshold()).append(' ')
            .append(m.duration()).append(' ').append(m.undoCount()).append(' ').append(m.isOpen()).append(' ')
            .append(m.isReady()).append(' ').append(m.openMinutes()).append(' ').append(m.ringings()).append(" fog");
        for (int i = 0; i < 12; i++) {
            all.append(' ').append(m.fogIn(5 * i));
        }
        for (int i = 0; i < m.stallCount(); i++) {
            all.append("; stall ").append(m.positionOf(i)).append(' ').append(m.lanternOf(i)).append(' ')
                .append(m.textureOf(i)).append(' ').append(m.priceOf(i)).append(' ').append(m.stockOf(i)).append(' ')
                .append(m.heldOf(i)).append(' ').append(m.soldOf(i)).append(' ').append(m.lostOf(i)).append(' ')
                .append(m.earnings(i));
        }
        for (int i = 0; i < m.buyerCount(); i++) {
            all.append("; buyer ").append(m.placeOf(i)).append(' ').append(m.coinsOf(i)).append(' ')
                .append(m.wantedTexture(i)).append(' ').append(m.speedOf(i)).append(' ').append(m.heldFrom(i)).append(' ')
                .append(m.debtOf(i)).append(' ').append(m.avoidedBy(i)).append(' ').append(m.boughtBy(i));
        }
        return all.toString();
    }

    // ---- promise 1

    private static void promise1NewObject() {
        FogBellMarket m = new FogBellMarket();
        due("a new market", describe(m), "7 10 4 20 0 true false 2 1 fog 2 5 7 3 8 2 5 7 3 8 2 5"
            + "; stall 30 0 1 12 4 1 0 0 0; stall 18 3 2 7 3 0 0 0 0; stall 55 2 1 9 1 1 0 0 0"
            + "; buyer 24 40 1 6 0 12 0 0; buyer 0 6 2 4 -1 0 0 0; buyer 46 100 1 9 2 9 0 0");
        due("input of a new market", inputLength(m), 0);
        due("output of a new market", m.outputByte(0), -1);
        due("changes of a new market", m.undoCount(), 0);
        refused("undo of a new market", STATE, m::undo);
        refused("restore 0 of a new market", NO_ELEMENT, () -> m.restore(0));
        refused("restore 1 of a new market", NO_ELEMENT, () -> m.restore(1));
        FogBellMarket twin = new FogBellMarket();
        setup(twin, "market 1 1 1; fog 0;");
        setup(twin, FIRST_SETUP);
        due("the market of the first setup", describe(twin), describe(new FogBellMarket()));
        due("objects stand apart", m.passMinutes(5) >= 0 && new FogBellMarket().minute() == 7, true);
    }

    // ---- promise 2

    private static void promise2FeedKeepsTheOrderOfBytes() {
        FogBellMarket m = new FogBellMarket();
        due("feed 20 bytes", feed(m, "price 0 50; move 1 7;"), 21);
        due("run what was fed", m.runScript(), 2);
        due("price fed", m.priceOf(0), 50);
        due("position fed", m.positionOf(1), 7);
        // "mo" "ve 1" in five parameters, one byte or two in each, at all four places of the word.
        m.feed('m' << 24 | 'o', 'v' << 16 | 'e', ' ' << 8, '1' << 24 | ' ' << 8, '9');
        due("feed some more", m.feed('8' << 24 | ';', 0, 0, 0, 0), 10);
        due("run what was fed in parts", m.runScript(), 1);
        due("position fed in parts", m.positionOf(1), 98);
    }

    private static void promise2FeedSkipsZeroes() {
        FogBellMarket m = new FogBellMarket();
        due("feed nothing", m.feed(0, 0, 0, 0, 0), 0);
        due("feed a byte in each parameter", m.feed(0x20000000, 0x00200000, 0x00002000, 0x00000020, 0x20002000), 6);
        due("feed 20 great bytes", m.feed(-1, -1, -1, -1, -1), 26);
        due("feed a sign bit", m.feed(0x80000000, 0x00800000, 0, 0, 0), 28);
        due("great bytes belong to no token", m.runScript(), -1);
        due("code of a great byte", m.errorCode(), 1);
        due("position of a great byte", m.errorPosition(), 6);
    }

    private static void promise2FeedHolds700Bytes() {
        FogBellMarket m = new FogBellMarket();
        String twenty = "                    ";
        for (int i = 1; i <= 34; i++) {
            due("feed " + i + " times 20", feed(m, twenty), 20 * i);
        }
        due("feed 10 up to 690", feed(m, "          "), 690);
        due("feed beyond 700", feed(m, "           "), -1);
        due("nothing was appended", inputLength(m), 690);
        due("feed up to 700", feed(m, "  move 0 1"), 700);
        due("a byte more", m.feed(0, 0, 0, 0, 32), -1);
        due("the smallest byte more", m.feed(1, 0, 0, 0, 0), -1);
        due("zeroes more", m.feed(0, 0, 0, 0, 0), 700);
        due("the end of a full buffer", m.runScript(), -1);
        due("code at the end of a full buffer", m.errorCode(), 1);
        due("position at the end of a full buffer", m.errorPosition(), 700);
        due("a full buffer is emptied", m.feed(0, 0, 0, 0, 32), 1);
        promise2EachParameterCounts();
        FogBellMarket full = new FogBellMarket();
        feed(full, "price 0 9;");
        for (int i = 0; i < 34; i++) {
            feed(full, twenty);
        }
        due("a script of 700 bytes", feed(full, " move 1 3;"), 700);
        due("run 700 bytes", full.runScript(), 2);
        due("the last command of 700 bytes", full.positionOf(1), 3);
    }

    private static void promise2EachParameterCounts() {
        FogBellMarket m = new FogBellMarket();
        for (int i = 0; i < 34; i++) {
            m.feed(-1, -1, -1, -1, -1);
        }
        due("feed up to 697", m.feed(-1, -1, -1, -1, 0x01000000), 697);
        due("too much in the first", m.feed(-1, 0, 0, 0, 0), -1);
        due("too much in the second", m.feed(0, -1, 0, 0, 0), -1);
        due("too much in the third", m.feed(0, 0, -1, 0, 0), -1);
        due("too much in the fourth", m.feed(0, 0, 0, -1, 0), -1);
        due("too much in the fifth", m.feed(0, 0, 0, 0, -1), -1);
        due("too much in all", m.feed(1, 1 << 8, 0, 1 << 16, 1 << 24), -1);
        due("just enough", m.feed(0, 1 << 8, 0, 1 << 16, 1 << 24), 700);
    }

    // ---- promise 3

    private static void promise3SetupReplacesTheMarket() {
        FogBellMarket m = new FogBellMarket();
        due("setup", setup(m, "market 9 60 99; fog 0 1 2 3 4 5 6 7 8 9 8 7; stall 0 green rough 999 99; buyer 99 9999 soft 20;"), 1);
        due("the new market", describe(m), "0 99 9 60 0 false true 0 0 fog 0 1 2 3 4 5 6 7 8 9 8 7"
            + "; stall 0 1 0 999 99 0 0 0 0; buyer 99 9999 2 20 -1 0 0 0");
        due("input after a setup", inputLength(m), 0);
        due("an empty market", setup(m, "market 1 1 0; fog 5;"), 0);
        due("the empty market", describe(m), "0 0 1 1 0 false true 0 0 fog 5 5 5 5 5 5 5 5 5 5 5 5");
        due("output stands", m.outputByte(0), -1);
        setup(m, "market 1 60 1; fog 9; stall 1 red rough 7 9; stall 1 red soft 7 9; buyer 1 99 rough 1; buyer 1 99 soft 1; minutes 9;");
        due("a lively market", m.boughtBy(1) > 0 && m.avoidedBy(1) > 0 && m.lostOf(0) > 0 && m.soldOf(0) > 0, true);
        setup(m, "market 1 60 1; fog 9; stall 1 red rough 7 9; stall 1 red soft 7 9; buyer 1 99 rough 1; buyer 1 99 soft 1;");
        due("a quiet market in its place", describe(m), "0 1 1 60 0 false true 0 0 fog 9 9 9 9 9 9 9 9 9 9 9 9"
            + "; stall 1 0 0 7 9 0 0 0 0; stall 1 0 2 7 9 0 0 0 0; buyer 1 99 0 1 -1 0 0 0; buyer 1 99 2 1 -1 0 0 0");
    }

    private static void promise3SetupForgetsChangesAndSaves() {
        FogBellMarket m = new FogBellMarket();
        m.save(0);
        m.save(1);
        m.setPrice(0, 3);
        m.setPrice(0, 4);
        m.writeRope();
        setup(m, "market 1 1 0; fog 5; stall 7 red soft 3 3; price 0 9;");
        due("changes after a setup", m.undoCount(), 0);
        refused("undo after a setup", STATE, m::undo);
        refused("restore 0 after a setup", NO_ELEMENT, () -> m.restore(0));
        refused("restore 1 after a setup", NO_ELEMENT, () -> m.restore(1));
        due("the output outlives a setup", m.outputByte(10), 42);
        m.setPrice(0, 8);
        due("undo after a change behind a setup", m.undo(), 0);
        due("the price of the setup", m.priceOf(0), 9);
    }

    private static void promise3SetupWithAnError() {
        FogBellMarket m = new FogBellMarket();
        m.setPrice(0, 3);
        m.save(1);
        m.setPrice(0, 4);
        String before = describe(m);
        due("bad setup", setup(m, "market 1 1 0; fog 5; stall 7 red soft 3 3; minutes 5; price 1 9;"), -1);
        due("market after a bad setup", describe(m), before);
        due("input after a bad setup", inputLength(m), 0);
        due("undo after a bad setup", m.undo(), 1);
        due("price undone", m.priceOf(0), 3);
        m.setPrice(0, 9);
        due("restore after a bad setup", m.restore(1), 7);
        due("price restored", m.priceOf(0), 3);
    }

    // ---- promise 4

    private static void promise4ScriptDoesAllCommands() {
        FogBellMarket m = new FogBellMarket();
        due("script", script(m, "stall 99 blue soft 999 98; buyer 98 9999 rough 20; price 3 998; stock 3 1; lantern 3 green;"
            + "move 3 97; fog 4 9; back 0; minutes 1;"), 9);
        due("after all commands", describe(m), "8 10 4 20 1 true false 3 1 fog 2 5 7 3 9 2 5 7 3 9 2 5"
            + "; stall 30 0 1 12 5 0 0 0 0; stall 18 3 2 7 3 0 0 0 0; stall 55 2 1 9 1 1 0 0 0; stall 97 1 2 998 99 0 0 0 0"
            + "; buyer 18 40 1 6 -1 0 3 0; buyer 0 6 2 4 -1 0 0 0; buyer 37 100 1 9 2 9 0 0; buyer 97 9999 0 20 -1 0 8 0");
        due("goods came by stall and stock", m.spoiledShare(), 0.0f);
        due("accounts after a script", m.consistencyError(), 0);
    }

    private static void promise4ScriptIsOneChange() {
        FogBellMarket behind = new FogBellMarket();
        script(behind, "fog 0 9;");
        due("density by script", behind.fogIn(0), 9);
        behind.setPrice(0, 77);
        behind.passMinutes(2);
        due("a script behind other changes", script(behind, "price 1 5; fog 1 0;"), 2);
        due("the other changes stand", behind.priceOf(0) * 100 + behind.minute(), 7709);
        due("the script's changes stand", behind.priceOf(1) * 100 + behind.fogIn(5), 500);
        FogBellMarket m = new FogBellMarket();
        String before = describe(m);
        due("script of three", script(m, "price 0 1; price 0 2; minutes 3;"), 3);
        due("one change", m.undoCount(), 1);
        due("undo of a script", m.undo(), 0);
        due("the market before the script", describe(m), before);
        due("empty script", m.runScript(), 0);
        due("an empty script is a change", m.undoCount(), 1);
        due("script of blanks", script(m, " \n "), 0);
        due("a script of blanks is a change", m.undoCount(), 2);
        due("undo of an empty script", m.undo(), 1);
    }

    private static void promise4ScriptWithAnError() {
        FogBellMarket m = new FogBellMarket();
        m.setPrice(0, 3);
        m.save(0);
        String before = describe(m);
        due("bad script", script(m, "price 0 1; stall 0 red rough 1 1; minutes 30; fog 0 9; back 1;"), -1);
        due("market after a bad script", describe(m), before);
        due("input after a bad script", inputLength(m), 0);
        due("a good script after a bad one", script(m, "price 1 5;"), 1);
        due("undo behind a bad script", m.undo(), 1);
        due("market undone", describe(m), before);
        due("restore behind a bad script", m.restore(0), 7);
    }

    private static void promise4CommandsGoByWhatTheOnesBeforeDid() {
        FogBellMarket m = new FogBellMarket();
        due("a stall that is new", script(m, "stall 1 red rough 2 3; price 3 5; stock 3 96;"), 3);
        due("price of the new stall", m.priceOf(3), 5);
        badScript(m, 3, "stock 3 ^1;");
        due("a buyer who is new", script(m, "buyer 1 50 rough 1; minutes 1; back 3;"), 3);
        due("the new buyer avoids", m.avoidedBy(3), 8);
        badScript(3, "stock 0 95; stock 0 ^1;");
        badScript(3, "back 2; back ^2;");
    }

    // ---- promises 5 and 6

    private static void promise5And6NoCallYet() {
        FogBellMarket m = new FogBellMarket();
        due("error code of a new market", m.errorCode(), 0);
        due("error position of a new market", m.errorPosition(), -1);
        feed(m, "nonsense");
        due("error code before the call", m.errorCode(), 0);
        due("error position before the call", m.errorPosition(), -1);
    }

    private static void promise5And6LatestCall() {
        FogBellMarket m = new FogBellMarket();
        script(m, " back 1;");
        due("code of a script", m.errorCode(), 3);
        due("position of a script", m.errorPosition(), 6);
        m.save(0);
        m.setPrice(0, 5);
        m.undo();
        m.restore(0);
        due("code outlives undo and restore", m.errorCode(), 3);
        due("position outlives undo and restore", m.errorPosition(), 6);
        setup(m, "market 0");
        due("code of a setup", m.errorCode(), 2);
        due("position of a setup", m.errorPosition(), 7);
        script(m, "");
        due("code of a good script", m.errorCode(), 0);
        due("position of a good script", m.errorPosition(), -1);
        m.setPrice(0, 5);
        setup(m, "back");
        m.undo();
        due("undo does not bring an error back", m.errorCode(), 1);
        setup(m, "market 1 1 1; fog 1;");
        due("code of a good setup", m.errorCode(), 0);
        due("position of a good setup", m.errorPosition(), -1);
    }

    // ---- the grammar

    private static void syntaxErrorsOfScripts() {
        String[] texts = {
            "stall^", "stall 1^", "stall 1  ^", "stall 1 red^", "stall 1 red soft^", "stall 1 red soft 1^",
            "stall 1 red soft 1 1^", "stall 1 red soft 1 1 \n^", "stall 5 ^pink soft 1 1;", "stall 5 ^rough soft 1 1;",
            "stall 5 ^1", "stall ^red", "stall ^;", "stall 5 red ^red", "stall 5 red ^5", "stall 5 red soft ^soft",
            "stall 5 red soft ^;", "stall 5 red soft 5 ^;", "stall 5 red soft 5 5 ^5;", "stall 5 red soft 5 5 ^price",
            "^stallred", "^stal", "^stalls 1", "^Stall 1", "stall 1 ^Red", "^market", "^red", "^rough", "^;", "^5", "^ab",
            "buyer^", "buyer 1 1^", "buyer 1 1 ^red", "buyer 1 1 soft^", "buyer 1 1 soft 1^", "buyer 1 1 soft 1 ^1;",
            "price^", "price ^two 5;", "price 0^", "price 0 ^;", "price 0 5^", "price 0 5 ^5;", "price 0 5;^;", "price 0 5; ^5;",
            "stock ^;", "stock 0 ^;", "stock 0 1^", "lantern ^red", "lantern 0 ^5;", "lantern 0 ^rough;", "lantern 0 ^reds;",
            "lantern 0 red^", "move ^;", "move 0 ^;", "move 0 1^", "fog ^;", "fog 0 ^;", "fog 0 1 ^2;", "back ^;", "back 0^",
            "back 0 ^1;", "minutes ^;", "minutes 1^", "minutes 1 ^1;", "price 0 5^,", "price^\t0 5;", "price 0 5;^-", "^_",
            "price 0 ^-5;", "price 0 5^.0;", "price 0 5^:", "price 0 5^/", "price 0 5^`;", "price 0 5^{;", "price 0 5^\r;",
            "price 0 5 ^\u00e9;", "price 0 5 ^\u00ff;", "price 0 5; ^\u0080", "minutes 5; ^minute 5;", "price 0 5; ^prise 0 5;",
            "price 0 5; move 1^", "^dog 0 5;", "^zinutes 5;", "stall 1 ^bed soft 1 1;",
            "stall 1 red ^loft 1 1;", "^fogz 0 1;", "price 0 5; ^fogz", "^afog 0 1;", "^prices 0 5;", "stall 1 ^redz soft 1 1;"};
        for (String text : texts) {
            badScript(1, text);
        }
    }

    private static void rangeErrorsOfScripts() {
        String[] texts = {
            "stall ^100 red soft 1 1;", "stall 99 red soft ^0 1;", "stall 99 red soft ^1000 1;", "stall 99 red soft 999 ^100;",
            "buyer ^100 0 soft 1;", "buyer 99 ^10000 soft 1;", "buyer 99 9999 soft ^0;", "buyer 99 9999 soft ^21;",
            "price ^3 5;", "price 2 ^0;", "price 2 ^1000;", "stock ^3 1;", "stock 2 ^100;", "stock 0 ^99999;", "lantern ^3 red;",
            "move ^3 1;", "move 2 ^100;", "fog ^5 1;", "fog 4 ^10;", "back ^3;", "minutes ^0;", "minutes ^000;", "minutes ^101;",
            "minutes ^4294967297;", "minutes ^18446744073709551617;", "minutes ^2147483648;", "minutes ^99999999999999999999999;",
            "minutes ^100000000000000000000000000000000000001", "price 0 ^65537;", "price 0 ^1000;",
            "price 0 5; price 0 ^0; nonsense", "stall ^999red"};
        for (String text : texts) {
            badScript(2, text);
        }
    }

    private static void stateErrorsOfScripts() {
        badScript(3, "back ^1;");
        badScript(3, "back ^1");
        badScript(3, "back 0; back ^0;");
        badScript(3, "stock 0 ^96;");
        badScript(3, "stock 0 ^99");
        badScript(3, "stock 0 95; stock 0 ^1;");
        badScript(3, "stock 2 ^0099; nonsense");
        FogBellMarket m = new FogBellMarket();
        due("stock up to 100 by putting back", script(m, "stock 0 95; back 0;"), 2);
        due("stock of 100", m.stockOf(0), 100);
        badScript(m, 3, "stock 0 ^0;");
    }

    private static void limitErrorsOfScripts() {
        String stalls = "stall 1 red soft 1 1;stall 1 red soft 1 1;stall 1 red soft 1 1;";
        String buyers = "buyer 1 1 soft 1;buyer 1 1 soft 1;buyer 1 1 soft 1;";
        goodScript(3, stalls);
        goodScript(3, buyers);
        badScript(4, stalls + "^stall 1 red soft 1 1;");
        badScript(4, stalls + "^stall");
        badScript(1, stalls + "^stallx");
        badScript(4, buyers + "^buyer 1 1 soft 1;");
        badScript(4, buyers + "^buyer 100");
        String forty = "fog 0 2;".repeat(40);
        goodScript(40, forty);
        goodScript(40, forty + "  \n");
        badScript(4, forty + "^fog 0 2;");
        badScript(4, forty + " ^price");
        badScript(4, forty + "^minutes 0;");
        badScript(1, forty + "^prize");
        badScript(1, forty + "^red");
        badScript(1, forty + "^7");
        badScript(1, forty + "^;");
        badScript(4, stalls + "fog 0 2;".repeat(37) + "^stall");
    }

    private static void goodScripts() {
        goodScript(0, "");
        goodScript(0, " \n");
        goodScript(1, "stall5red soft1 1;");
        goodScript(1, "stall 0 red rough 1 0;");
        goodScript(1, "stall 99 white soft 999 99;");
        goodScript(1, "buyer 99 9999 smooth 20;");
        goodScript(1, "buyer0 0rough1;");
        goodScript(2, "price0 999;price\n2\n1\n;");
        goodScript(2, "stock 0 95;stock 0 0;");
        goodScript(1, "stock 2 98;");
        goodScript(4, "lantern 0 red;lantern 0 green;lantern 0 blue;lantern 0 white;");
        goodScript(2, "move 2 99;move 0 0;");
        goodScript(2, "fog 4 9;fog 0 0;");
        goodScript(2, "back 0;back 2;");
        goodScript(2, "minutes 1;minutes 100;");
        goodScript(1, "minutes 0000000000000000000000000000000000000000000000100;");
        goodScript(1, "  minutes \n\n 1  ;  ");
    }

    private static void errorsOfSetups() {
        String[] syntax = {
            "^", "  ^", "^fog 1;", "^stall 1 red soft 1 1;", "^;", "^5", "market^", "market 1^", "market 1 1^", "market 1 1 1^",
            "market ^;", "market ^soft", "market 1 1 1 ^1;", "market 1 1 1 ^fog", "market 1 1 1;^", "market 1 1 1; ^stall",
            "market 1 1 1; ^market", "market 1 1 1; ^;", "market 1 1 1; fog^", "market 1 1 1; fog ^;", "market 1 1 1; fog 5^",
            "market 1 1 1; fog 5 ^red", "market 1 1 1; fog 0 1 2 3 4 5 6 7 8 9 0 1^", "market 1 1 1; fog 0 1 2 3 4 5 6 7 8 9 0 1 ^soft;",
            "market 1 1 1; fog 5;^;", "market 1 1 1; fog 5; ^market", "market 1 1 1; fog 5; stall 1^", "market 1 1 1; fog 5; minutes 5^",
            "market 1 1 1; fog 5^!", "market^_1 1 1; fog 5;"};
        for (String text : syntax) {
            badSetup(1, text);
        }
        String[] range = {
            "market ^0 1 1; fog 5;", "market ^10 1 1; fog 5;", "market 1 ^0 1; fog 5;", "market 1 ^61 1; fog 5;",
            "market 1 1 ^100; fog 5;", "market 1 1 1; fog ^10;", "market 1 1 1; fog 5 ^10;", "market ^4294967297 1 1; fog 5;",
            "market 1 1 1; fog 0 1 2 3 4 5 6 7 8 9 0 1 ^10;", "market 1 1 1; fog 5; price ^0 5;", "market 1 1 1; fog 5; stock ^0 5;",
            "market 1 1 1; fog 5; lantern ^0 red;", "market 1 1 1; fog 5; move ^0 5;", "market 1 1 1; fog 5; back ^0;",
            "market 1 1 1; fog 5; fog ^1 5;", "market 1 1 1; fog 5; fog 0 ^10;", "market 1 1 1; fog 5 5; fog ^2 5;",
            "market 1 1 1; fog 5; stall 1 red soft 1 1; price ^1 5;", "market 1 1 1; fog 5; buyer 1 1 soft 1; back ^1;"};
        for (String text : range) {
            badSetup(2, text);
        }
        badSetup(3, "market 1 1 1; fog 5; buyer 1 1 soft 1; back ^0;");
        badSetup(3, "market 1 1 1; fog 5; stall 1 red soft 1 90; stock 0 ^10;");
        badSetup(4, "market 1 1 1; fog 0 1 2 3 4 5 6 7 8 9 0 1 ^2;");
        badSetup(4, "market 1 1 1; fog 0 1 2 3 4 5 6 7 8 9 0 1 ^9");
        badSetup(4, "market 1 1 1; fog 5;" + "stall 1 red soft 1 1;".repeat(6) + "^stall 1 red soft 1 1;");
        badSetup(4, "market 1 1 1; fog 5;" + "buyer 1 1 soft 1;".repeat(6) + "^buyer 1 1 soft 1;");
        badSetup(4, "market 1 1 1; fog 5;" + "fog 0 2;".repeat(40) + "^fog 0 2;");
        badSetup(1, "market 1 1 1; fog 5;" + "fog 0 2;".repeat(40) + "^9");
    }

    private static void goodSetups() {
        goodSetup(0, "market 1 1 0; fog 0;");
        goodSetup(0, "market9 60 99;fog9;");
        goodSetup(0, " market\n001 0000000000000000000060 7 ; fog 0 1 2 3 4 5 6 7 8 9 0 1 ; \n");
        goodSetup(6, "market 1 1 1; fog 5;" + "stall 1 red soft 1 1;".repeat(6));
        goodSetup(0, "market 1 1 1; fog 5;" + "buyer 1 1 soft 1;".repeat(6));
        FogBellMarket m = goodSetup(0, "market 1 1 1; fog 5;" + "fog 0 2;".repeat(39) + "minutes 100;");
        due("the minute after a setup", m.minute(), 100);
    }
}
