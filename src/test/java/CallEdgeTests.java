import java.util.LinkedHashMap;
import java.util.List;
import java.util.Map;
import java.util.function.Supplier;

/** The edges of promises 7 to 51: the first and last values, counts that are full or empty, and each refused call. */
public final class CallEdgeTests extends Checks {
    private static final int LEAST = Integer.MIN_VALUE;
    private static final int GREATEST = Integer.MAX_VALUE;

    private static final List<Supplier<FogBellMarket>> MARKETS = List.of(FogBellMarket::new, Checks::busy, Checks::full);

    // Open in the minutes 55 to 59 of each hour. The good is taken in the minute 55 and paid in the minute 59.
    private static final String LATE_IN_THE_HOUR = "market 9 60 24; fog 0 0 0 0 0 0 0 0 0 0 0 9; stall 20 white rough 5 99;"
        + "buyer 20 100 rough 1;";
    // As late. The buyer goes five paces an hour, is at the stall in the minute 179, and pays in the minute 239.
    private static final String HOURS_AWAY = "market 9 60 24; fog 0 0 0 0 0 0 0 0 0 0 0 9; stall 20 green rough 5 99;"
        + "buyer 5 100 rough 1;";
    // Open in the first five minutes of each hour. The good is taken in the minute 60 and paid in the minute 63.
    private static final String AN_HOUR_AWAY = "market 9 60 13; fog 9 0 0 0 0 0 0 0 0 0 0 0; stall 10 white rough 7 1;"
        + "buyer 4 100 rough 1;";

    interface Asked {
        int of(FogBellMarket m, int value);
    }

    public static void main(String[] args) {
        promise7Minute();
        promise8BellPosition();
        promise9Threshold();
        promise10Duration();
        promise11UndoCount();
        promise12FogIn();
        promises13And14OpenAndReady();
        promise15OpenMinutes();
        promise16Ringings();
        promise17MinutesToBell();
        promise18MinutesToEnd();
        promise19StallCount();
        stallsThatAreThere();
        stallsThatAreNotThere();
        promise25HeldOf();
        promises26To28GoodsAtTheirEdges();
        promise29Reach();
        promise30SeenFrom();
        promise31BuyerCount();
        buyersWhoAreThere();
        buyersWhoAreNotThere();
        promises36And37NothingIsHeld();
        promise40TargetOf();
        promise41Touch();
        promise42CoinsInAll();
        promise43ConsistencyError();
        promise44MeanPaid();
        promise45SpoiledShare();
        promise46MinutesToPay();
        promise47EarningsAfter();
        promise48BestPrice();
        promise48BestPriceOfAsGoodOnes();
        promise49BestLantern();
        promise50NextPayer();
        promise51BestBellPosition();
        predictionsLookSixtyMinutesAhead();
        predictionsChangeNothing();
        end();
    }

    private static void refusedFor(String what, Class<?> want, Supplier<FogBellMarket> recipe, Asked call, int... values) {
        for (int value : values) {
            refusedAndNothingChanged(what + " of " + value, want, recipe, m -> call.of(m, value));
        }
    }

    // ---- fog and bell

    private static void promise7Minute() {
        FogBellMarket m = empty();
        due("at first", m.minute(), 0);
        m.passMinutes(100);
        due("after 100", m.minute(), 100);
        m.undo();
        due("undone", m.minute(), 0);
    }

    private static void promise8BellPosition() {
        due("the first position", market("market 5 5 0; fog 5;").bellPosition(), 0);
        due("the last position", market("market 5 5 99; fog 5;").bellPosition(), 99);
    }

    private static void promise9Threshold() {
        due("the least threshold", market("market 1 5 50; fog 5;").threshold(), 1);
        due("the greatest threshold", market("market 9 5 50; fog 5;").threshold(), 9);
    }

    private static void promise10Duration() {
        due("the least duration", market("market 5 1 50; fog 5;").duration(), 1);
        due("the greatest duration", market("market 5 60 50; fog 5;").duration(), 60);
    }

    private static void promise11UndoCount() {
        FogBellMarket m = empty();
        for (int changes = 0; changes <= 10; changes++) {
            due("after " + changes + " changes", m.undoCount(), Math.min(changes, 8));
            m.setFog(0, changes % 2);
        }
    }

    private static void promise12FogIn() {
        FogBellMarket m = full();
        due("the first minute", m.fogIn(0), 0);
        due("the last minute of the pattern", m.fogIn(59), 7);
        due("the first minute again", m.fogIn(60), 0);
        due("the last minute", m.fogIn(99999), 7);
        due("the last beginning of the pattern", m.fogIn(99960), 0);
        m.passMinutes(61);
        due("it does not go by the present minute", m.fogIn(5), 1);
        for (Supplier<FogBellMarket> recipe : MARKETS) {
            refusedFor("fogIn", ARGUMENT, recipe, FogBellMarket::fogIn, -1, 100000, LEAST, GREATEST);
        }
    }

    private static void promises13And14OpenAndReady() {
        FogBellMarket m = market("market 5 5 50; fog 5 4;");
        String[] after = {"open false ready true", "open true ready false", "open true ready false", "open true ready false",
            "open true ready false", "open true ready false", "open false ready true"};
        for (int minute = 0; minute < after.length; minute++) {
            due("in minute " + minute, "open " + m.isOpen() + " ready " + m.isReady(), after[minute]);
            m.passMinutes(1);
        }
        FogBellMarket again = market("market 5 4 50; fog 5 4;");
        again.passMinutes(5);
        due("ended by its duration", "open " + again.isOpen() + " ready " + again.isReady(), "open false ready false");
    }

    private static void promise15OpenMinutes() {
        FogBellMarket m = market("market 5 60 50; fog 5;");
        due("closed at first", m.openMinutes(), 0);
        m.passMinutes(1);
        due("the first minute", m.openMinutes(), 1);
        m.passMinutes(59);
        due("the last minute", m.openMinutes(), 60);
        m.passMinutes(1);
        due("closed again", m.openMinutes(), 0);
        m.passMinutes(1);
        due("closed minutes do not count", m.openMinutes(), 0);
    }

    private static void promise16Ringings() {
        FogBellMarket m = market("market 9 60 0; fog 0 9;");
        for (int times = 0; times <= 12; times++) {
            due("ringings", m.ringings(), times);
            m.passMinutes(5);
            due("ringings in thin fog", m.ringings(), times);
            m.passMinutes(5);
        }
    }

    // The pattern lasts for at most 60 minutes: the bell rings within them, or in the minute after them, or never.
    private static void promise17MinutesToBell() {
        due("it rings now", market("market 5 5 50; fog 5;").minutesToBell(), 0);
        due("it never rings", market("market 6 5 50; fog 5;").minutesToBell(), -1);
        due("it rings in the last density", market("market 9 60 0; fog 0 0 0 0 0 0 0 0 0 0 0 9;").minutesToBell(), 55);
        FogBellMarket m = market("market 5 1 50; fog 9 9 9 9 9 9 9 9 9 9 9 9;");
        m.passMinutes(5);
        due("it is not ready any more", m.minutesToBell(), -1);
        m.setFog(0, 4);
        due("a whole pattern later", m.minutesToBell(), 60);
        m.passMinutes(59);
        due("when thin fog has made it ready", m.minutesToBell() + " " + m.isReady(), "1 true");
        m.passMinutes(1);
        due("it rings now again", m.minutesToBell(), 0);
        m.passMinutes(1);
        due("once more a whole pattern later", m.minutesToBell(), 59);
        due("rung", m.ringings(), 2);
    }

    private static void promise18MinutesToEnd() {
        FogBellMarket m = market("market 5 60 50; fog 5;");
        due("closed, though it would open and end", m.minutesToEnd(), -1);
        m.passMinutes(1);
        due("the longest time", m.minutesToEnd(), 59);
        m.passMinutes(58);
        due("one minute more", m.minutesToEnd(), 1);
        m.passMinutes(1);
        due("it ends now", m.minutesToEnd(), 0);
        m.passMinutes(1);
        due("it has ended", m.minutesToEnd(), -1);
        FogBellMarket thin = market("market 5 60 50; fog 5 5 5 5 5 5 5 5 5 5 5 4; minutes 1;");
        due("thin fog comes first", thin.minutesToEnd(), 54);
        FogBellMarket now = market("market 5 60 50; fog 5 4; minutes 5;");
        due("thin fog now", now.minutesToEnd(), 0);
        FogBellMarket anew = market("market 5 60 50; fog 4 5 5; minutes 6;");
        due("thin fog where the pattern begins anew", anew.minutesToEnd(), 9);
    }

    // ---- stalls

    private static void promise19StallCount() {
        FogBellMarket m = empty();
        for (int count = 0; count < 6; count++) {
            due("before stall " + count, m.stallCount(), count);
            m.addStall(0, 0, 0, 1, 0);
        }
        due("all stalls", m.stallCount(), 6);
    }

    private static Map<String, Asked> callsOfAStall() {
        Map<String, Asked> calls = new LinkedHashMap<>();
        calls.put("positionOf", FogBellMarket::positionOf);
        calls.put("lanternOf", FogBellMarket::lanternOf);
        calls.put("textureOf", FogBellMarket::textureOf);
        calls.put("priceOf", FogBellMarket::priceOf);
        calls.put("stockOf", FogBellMarket::stockOf);
        calls.put("heldOf", FogBellMarket::heldOf);
        calls.put("soldOf", FogBellMarket::soldOf);
        calls.put("lostOf", FogBellMarket::lostOf);
        calls.put("earnings", FogBellMarket::earnings);
        calls.put("bestPrice", FogBellMarket::bestPrice);
        calls.put("bestLantern", FogBellMarket::bestLantern);
        calls.put("touch by buyer 0", (m, stall) -> m.touch(0, stall));
        calls.put("earningsAfter 0 minutes", (m, stall) -> m.earningsAfter(stall, 0));
        return calls;
    }

    private static void stallsThatAreThere() {
        FogBellMarket m = market("market 5 5 50; fog 5; stall 0 red rough 1 0; stall 99 white soft 999 99; stall 1 green smooth 2 1;"
            + "stall 98 blue soft 998 98; stall 50 red rough 500 50; stall 99 white soft 999 99;");
        due("the first", stall(m, 0), "at 0 lantern 0 texture 0 price 1 stock 0");
        due("the second", stall(m, 1), "at 99 lantern 3 texture 2 price 999 stock 99");
        due("the third", stall(m, 2), "at 1 lantern 1 texture 1 price 2 stock 1");
        due("the fourth", stall(m, 3), "at 98 lantern 2 texture 2 price 998 stock 98");
        due("the sixth", stall(m, 5), "at 99 lantern 3 texture 2 price 999 stock 99");
        for (int i = 0; i < 6; i++) {
            due("goods of " + i, goods(m, i), m.stockOf(i) + " held 0 sold 0 lost 0 for 0");
        }
    }

    private static void stallsThatAreNotThere() {
        for (Map.Entry<String, Asked> call : callsOfAStall().entrySet()) {
            refusedFor(call.getKey(), BOUNDS, Checks::empty, call.getValue(), -1, 0, 5, 6, LEAST, GREATEST);
            refusedFor(call.getKey(), BOUNDS, Checks::busy, call.getValue(), -1, 2, 5, 6, LEAST, GREATEST);
            refusedFor(call.getKey(), BOUNDS, Checks::full, call.getValue(), -1, 6, LEAST, GREATEST);
        }
    }

    private static void promise25HeldOf() {
        FogBellMarket m = full();
        m.setFog(0, 9);
        due("nobody holds", m.heldOf(0), 0);
        m.passMinutes(1);
        due("all six hold", m.heldOf(0) + " " + m.stockOf(0), "6 92");
        m.putBack(5);
        due("five hold", m.heldOf(0) + " " + m.stockOf(0), "5 93");
        m.passMinutes(1);
        due("the bell has ended", m.heldOf(0) + " " + m.stockOf(0), "0 98");
    }

    // Ninety-nine goods that mist spoils to the last one, and one good that is sold.
    private static void promises26To28GoodsAtTheirEdges() {
        FogBellMarket m = market("market 1 60 50; fog 9; stall 50 red rough 999 99; stall 20 green soft 1 1; buyer 50 999 rough 1;"
            + "minutes 1;");
        due("one is held, one is lost", goods(m, 0), "97 held 1 sold 0 lost 1 for 0");
        due("sold", m.passMinutes(1), 1);
        due("one is sold at the greatest price", goods(m, 0), "96 held 0 sold 1 lost 2 for 999");
        m.passMinutes(58);
        due("the market is open for an hour", goods(m, 0), "38 held 0 sold 1 lost 60 for 999");
        due("nothing is left to be lost", goods(m, 1), "0 held 0 sold 0 lost 1 for 0");
        due("accounts", m.consistencyError(), 0);
    }

    private static void promise29Reach() {
        FogBellMarket m = empty();
        int[][] reach = {{30, 12}, {24, 15}, {45, 0}, {12, 12}};
        for (int lantern = 0; lantern < 4; lantern++) {
            due("lantern " + lantern + " in the thinnest fog", m.reach(lantern, 0), reach[lantern][0]);
            due("lantern " + lantern + " in the thickest fog", m.reach(lantern, 9), reach[lantern][1]);
        }
        refusedFor("lantern", ARGUMENT, Checks::busy, (b, v) -> b.reach(v, 0), -1, 4, LEAST, GREATEST);
        refusedFor("density", ARGUMENT, Checks::busy, (b, v) -> b.reach(0, v), -1, 10, LEAST, GREATEST);
        refusedFor("both", ARGUMENT, Checks::busy, (b, v) -> b.reach(v, v), -1, 10);
    }

    private static void promise30SeenFrom() {
        FogBellMarket m = market("market 9 1 50; fog 9 0; stall 0 white rough 1 1; stall 99 white rough 1 1; stall 12 red rough 1 1;"
            + "stall 87 red rough 1 1; stall 50 blue rough 1 1; stall 50 green rough 1 1;");
        due("the first position", m.seenFrom(0), 5);
        due("the last position", m.seenFrom(99), 10);
        due("at two stalls", m.seenFrom(50), 48);
        due("the last pace of 12", m.seenFrom(12), 5);
        due("a pace beyond 12", m.seenFrom(13), 4);
        due("nothing is seen", m.seenFrom(30), 0);
        m.passMinutes(5);
        due("the first position in thin fog", m.seenFrom(0), 5);
        due("red, blue and green in thin fog", m.seenFrom(42), 52);
        m.passMinutes(5);
        due("thick fog anew", m.seenFrom(42), 32);
        due("no stall", empty().seenFrom(50), 0);
        for (Supplier<FogBellMarket> recipe : MARKETS) {
            refusedFor("seenFrom", ARGUMENT, recipe, FogBellMarket::seenFrom, -1, 100, LEAST, GREATEST);
        }
    }

    // ---- buyers

    private static void promise31BuyerCount() {
        FogBellMarket m = empty();
        for (int count = 0; count < 6; count++) {
            due("before buyer " + count, m.buyerCount(), count);
            m.addBuyer(0, 0, 0, 1);
        }
        due("all buyers", m.buyerCount(), 6);
    }

    private static Map<String, Asked> callsOfABuyer() {
        Map<String, Asked> calls = new LinkedHashMap<>();
        calls.put("placeOf", FogBellMarket::placeOf);
        calls.put("coinsOf", FogBellMarket::coinsOf);
        calls.put("wantedTexture", FogBellMarket::wantedTexture);
        calls.put("speedOf", FogBellMarket::speedOf);
        calls.put("heldFrom", FogBellMarket::heldFrom);
        calls.put("debtOf", FogBellMarket::debtOf);
        calls.put("avoidedBy", FogBellMarket::avoidedBy);
        calls.put("boughtBy", FogBellMarket::boughtBy);
        calls.put("targetOf", FogBellMarket::targetOf);
        calls.put("minutesToPay", FogBellMarket::minutesToPay);
        calls.put("touch of stall 0", (m, buyer) -> m.touch(buyer, 0));
        return calls;
    }

    private static void buyersWhoAreThere() {
        FogBellMarket m = market("market 5 5 50; fog 5; buyer 0 0 rough 1; buyer 99 9999 soft 20; buyer 1 1 smooth 2;"
            + "buyer 98 9998 soft 19; buyer 50 5 rough 5; buyer 99 9999 soft 20;");
        int[] places = {0, 99, 1, 98, 50, 99};
        int[] coins = {0, 9999, 1, 9998, 5, 9999};
        int[] wanted = {0, 2, 1, 2, 0, 2};
        int[] speeds = {1, 20, 2, 19, 5, 20};
        for (int i = 0; i < 6; i++) {
            due("buyer " + i, buyer(m, i), "at " + places[i] + " coins " + coins[i] + " holds -1 owes 0 avoids 0 bought 0");
            due("texture and speed of " + i, m.wantedTexture(i) + " " + m.speedOf(i), wanted[i] + " " + speeds[i]);
        }
    }

    private static void buyersWhoAreNotThere() {
        for (Map.Entry<String, Asked> call : callsOfABuyer().entrySet()) {
            refusedFor(call.getKey(), BOUNDS, Checks::empty, call.getValue(), -1, 0, 5, 6, LEAST, GREATEST);
            refusedFor(call.getKey(), BOUNDS, Checks::busy, call.getValue(), -1, 2, 5, 6, LEAST, GREATEST);
            refusedFor(call.getKey(), BOUNDS, Checks::full, call.getValue(), -1, 6, LEAST, GREATEST);
        }
    }

    private static void promises36And37NothingIsHeld() {
        FogBellMarket m = busy();
        due("who holds", m.heldFrom(0) + " " + m.debtOf(0), "0 12");
        due("who holds nothing", m.heldFrom(1) + " " + m.debtOf(1), "-1 0");
        m.putBack(0);
        due("who has put it back", m.heldFrom(0) + " " + m.debtOf(0), "-1 0");
        FogBellMarket paid = market("market 1 9 50; fog 1; stall 50 red rough 1 9; buyer 50 9 rough 1; minutes 2;");
        due("who has paid", paid.heldFrom(0) + " " + paid.debtOf(0) + " " + paid.boughtBy(0), "-1 0 1");
    }

    private static void promise40TargetOf() {
        FogBellMarket m = busy();
        due("who holds a good", m.targetOf(0), -1);
        due("who avoids the nearest", m.targetOf(1), 0);
        FogBellMarket closed = market("market 9 1 50; fog 8; stall 64 red rough 1 0; stall 36 red rough 1 0; buyer 50 0 soft 1;"
            + "buyer 51 0 soft 1; buyer 99 0 soft 1; buyer 0 0 soft 1;");
        due("of two as near, closed", closed.targetOf(0), 0);
        due("the nearest", closed.targetOf(1), 0);
        due("nothing is seen", closed.targetOf(2) + " " + closed.targetOf(3), "-1 -1");
        closed.moveStall(0, 65);
        due("a pace too far", closed.targetOf(0), 1);
        FogBellMarket none = empty();
        none.addBuyer(50, 1, 1, 1);
        due("no stall", none.targetOf(0), -1);
    }

    private static void promise41Touch() {
        FogBellMarket m = market("market 9 1 50; fog 0; stall 0 red rough 7 1; stall 0 red rough 8 1; stall 0 red rough 7 0;"
            + "stall 0 red soft 7 1; stall 0 red smooth 999 0; stall 0 red rough 999 99; buyer 99 7 rough 1; buyer 0 9999 rough 1;");
        int[] poor = {0, 3, 2, 1, 1, 3};
        int[] rich = {0, 0, 2, 1, 1, 0};
        for (int stall = 0; stall < 6; stall++) {
            due("touch of " + stall, m.touch(0, stall) + " " + m.touch(1, stall), poor[stall] + " " + rich[stall]);
        }
        due("who holds a good", busy().touch(0, 0), 0);
        due("an avoided stall", busy().touch(1, 1), 3);
        for (int index : new int[] {-1, 2, LEAST, GREATEST}) {
            refusedAndNothingChanged("touch of neither", BOUNDS, Checks::busy, b -> b.touch(index, index));
        }
    }

    // ---- accounts

    private static void promise42CoinsInAll() {
        due("nobody", empty().coinsInAll(), 0);
        FogBellMarket rich = market("market 1 60 50; fog 1; stall 50 red rough 999 99;" + "buyer 50 9999 rough 1;".repeat(6));
        due("the most", rich.coinsInAll(), 59994);
        rich.passMinutes(21);
        due("ten goods each", rich.earnings(0) + " " + rich.coinsOf(5) + " " + rich.coinsInAll(), "59940 9 59994");
        due("no coins", market("market 1 60 50; fog 1; buyer 50 0 rough 1;").coinsInAll(), 0);
    }

    private static void promise43ConsistencyError() {
        due("nothing", empty().consistencyError(), 0);
        FogBellMarket m = full();
        m.setFog(0, 9);
        for (int i = 0; i < 20; i++) {
            due("after " + 5 * i, m.consistencyError(), 0);
            m.passMinutes(5);
        }
        m.addStock(0, 99 - m.stockOf(0));
        due("after adding stock", m.consistencyError(), 0);
    }

    private static void promise44MeanPaid() {
        due("no stall", empty().meanPaid(), 0.0);
        FogBellMarket m = market("market 1 60 50; fog 1; stall 50 red rough 1 9; buyer 50 9 rough 1; minutes 1;");
        due("no good is sold", m.meanPaid(), 0.0);
        m.passMinutes(1);
        due("one good", m.meanPaid(), 1.0);
        m.setPrice(0, 2);
        m.passMinutes(4);
        due("three goods", m.meanPaid(), 5.0 / 3.0);
    }

    private static void promise45SpoiledShare() {
        due("no stall", empty().spoiledShare(), 0.0f);
        FogBellMarket m = market("market 1 60 50; fog 9; stall 50 red rough 1 0;");
        due("none came", m.spoiledShare(), 0.0f);
        m.passMinutes(1);
        due("none came, in mist", m.spoiledShare(), 0.0f);
        m.addStock(0, 3);
        due("none is spoiled", m.spoiledShare(), 0.0f);
        m.passMinutes(1);
        due("one of three", m.spoiledShare(), 1.0f / 3.0f);
        m.passMinutes(2);
        due("all", m.spoiledShare(), 1.0f);
    }

    // ---- predictions

    private static void promise46MinutesToPay() {
        FogBellMarket next = market("market 1 60 50; fog 1; stall 50 red rough 1 9; buyer 50 9 rough 1; minutes 1;");
        due("in the next minute", next.minutesToPay(0), 1);
        next.passMinutes(1);
        due("once more", next.minutesToPay(0), 2);
        due("no stall", market("market 1 60 50; fog 1; buyer 50 9 rough 1;").minutesToPay(0), -1);
        due("in the minute 59", market(LATE_IN_THE_HOUR).minutesToPay(0), 60);
        FogBellMarket far = market(HOURS_AWAY);
        far.passMinutes(39);
        due("in 201 minutes", far.minutesToPay(0), -1);
        far.passMinutes(1);
        due("in 200 minutes", far.minutesToPay(0), 200);
        far.passMinutes(100);
        due("in 100 minutes", far.minutesToPay(0), 100);
    }

    private static void promise47EarningsAfter() {
        FogBellMarket m = market("market 1 60 50; fog 1; stall 50 red rough 5 9; buyer 50 9 rough 1;");
        int[] minutes = {0, 1, 2, 3, 199, 200};
        int[] earned = {0, 0, 5, 5, 5, 5};
        for (int i = 0; i < minutes.length; i++) {
            due("earningsAfter " + minutes[i], m.earningsAfter(0, minutes[i]), earned[i]);
        }
        m.passMinutes(2);
        due("earnings already there", m.earningsAfter(0, 0), 5);
        FogBellMarket far = market(HOURS_AWAY);
        far.passMinutes(39);
        due("not yet in 200 minutes", far.earningsAfter(0, 200), 0);
        far.passMinutes(1);
        due("in the 200th minute", far.earningsAfter(0, 199) + " " + far.earningsAfter(0, 200), "0 5");
        refusedFor("minutes", ARGUMENT, Checks::busy, (b, v) -> b.earningsAfter(0, v), -1, 201, LEAST, GREATEST);
        refusedFor("stall", BOUNDS, Checks::busy, (b, v) -> b.earningsAfter(v, 200), -1, 2, LEAST, GREATEST);
        refusedFor("neither", BOUNDS, Checks::busy, (b, v) -> b.earningsAfter(v, v), -1, 201, LEAST, GREATEST);
        refusedFor("stall of none", BOUNDS, Checks::empty, (b, v) -> b.earningsAfter(v, 201), -1, 0, 1);
    }

    private static void promise48BestPrice() {
        String sale = "market 1 2 50; fog 1; stall 50 red rough 999 9; buyer 50 ";
        due("the greatest price", market(sale + "9999 rough 1;").bestPrice(0), 60);
        due("coins of 61", market(sale + "61 rough 1;").bestPrice(0), 60);
        due("coins of 60", market(sale + "60 rough 1;").bestPrice(0), 60);
        due("coins of 59", market(sale + "59 rough 1;").bestPrice(0), 59);
        due("coins of 2", market(sale + "2 rough 1;").bestPrice(0), 2);
        due("coins of 1", market(sale + "1 rough 1;").bestPrice(0), 1);
        due("no coins", market(sale + "0 rough 1;").bestPrice(0), 1);
        due("the wrong texture", market(sale + "60 soft 1;").bestPrice(0), 1);
        FogBellMarket six = full();
        six.setFog(0, 9);
        due("the sixth stall, at which nobody comes to buy", six.bestPrice(5), 1);
        due("its price stands", six.priceOf(5), 5);
    }

    // In ten minutes five goods are paid at most: as long as the coins reach, a greater price is better.
    private static void promise48BestPriceOfAsGoodOnes() {
        String sale = "market 1 10 50; fog 1; stall 50 red rough 999 9; buyer 50 ";
        due("five goods at 12 or one at 60", market(sale + "60 rough 1;").bestPrice(0), 12);
        due("five goods at 60", market(sale + "300 rough 1;").bestPrice(0), 60);
        due("five goods at 1", market(sale + "5 rough 1;").bestPrice(0), 1);
        FogBellMarket paid = market("market 1 60 50; fog 1; stall 50 red rough 7 1; buyer 50 9 rough 1; minutes 2;");
        due("of all prices as good", paid.bestPrice(0) + " " + paid.earnings(0), "1 7");
    }

    private static void promise49BestLantern() {
        String sale = "market 1 60 50; fog 1; stall 50 white rough 1 9; buyer ";
        due("at the stall, all are as good", market(sale + "50 9 rough 20;").bestLantern(0), 0);
        due("24 paces", market(sale + "26 9 rough 20;").bestLantern(0), 0);
        due("28 paces, red only just", market(sale + "22 9 rough 20;").bestLantern(0), 0);
        due("29 paces, blue", market(sale + "21 9 rough 20;").bestLantern(0), 2);
        due("40 paces, blue only just", market(sale + "10 9 rough 20;").bestLantern(0), 2);
        due("41 paces, none", market(sale + "9 9 rough 20;").bestLantern(0), 0);
        String thick = "market 1 60 50; fog 9; stall 50 red rough 1 1; buyer ";
        due("the good is taken before the mist", market(thick + "49 9 rough 1;").bestLantern(0), 0);
        due("a minute in the mist, which only white guards", market(thick + "48 9 rough 1;").bestLantern(0), 3);
        due("15 paces, green only just", market(thick + "35 9 rough 15;").bestLantern(0), 1);
        due("16 paces, none", market(thick + "34 9 rough 16;").bestLantern(0), 0);
        FogBellMarket m = market(thick + "48 9 rough 1;");
        m.bestLantern(0);
        due("its lantern stands", m.lanternOf(0), 0);
    }

    private static void promise50NextPayer() {
        due("nobody is there", empty().nextPayer(), -1);
        due("nothing is sold", market("market 1 60 50; fog 1; stall 50 red rough 1 0; buyer 50 9 rough 1;").nextPayer(), -1);
        FogBellMarket m = market("market 1 60 50; fog 1; stall 50 red rough 1 5;" + "buyer 52 9 rough 1;".repeat(5)
            + "buyer 50 9 rough 1;");
        due("the sixth buyer", m.nextPayer() + " " + m.minutesToPay(5), "5 2");
        m.passMinutes(1);
        due("the sixth buyer, in the next minute", m.nextPayer() + " " + m.minutesToPay(5), "5 1");
        m.passMinutes(1);
        due("of four in the next minute", m.nextPayer() + " " + m.minutesToPay(0) + " " + m.minutesToPay(3), "0 1 1");
        m.passMinutes(1);
        due("nobody any more", m.nextPayer() + " " + m.soldOf(0) + " " + m.stockOf(0), "-1 5 0");
        FogBellMarket far = market(HOURS_AWAY);
        far.passMinutes(39);
        due("in 201 minutes", far.nextPayer(), -1);
        far.passMinutes(1);
        due("in 200 minutes", far.nextPayer(), 0);
    }

    private static void promise51BestBellPosition() {
        due("nobody is there", empty().bestBellPosition(), 0);
        String sale = "market 1 2 50; fog 1; stall ";
        due("the first position", market(sale + "0 red rough 1 9; buyer 0 9 rough 1;").bestBellPosition(), 0);
        due("a pace from the stall", market(sale + "50 red rough 1 9; buyer 50 9 rough 1;").bestBellPosition(), 49);
        due("twenty paces from the stall", market(sale + "50 red rough 1 9; buyer 50 9 rough 20;").bestBellPosition(), 30);
        // At 99 the buyer takes and pays twice; a pace away, the stall at 97 comes next, and its good costs less.
        FogBellMarket last = market("market 1 4 50; fog 1; stall 97 red rough 1 9; stall 99 red rough 7 9; buyer 99 100 rough 1;");
        due("the last position", last.bestBellPosition(), 99);
        due("the bell stands", last.bellPosition(), 50);
    }

    private static void bestInSixtyMinutes(FogBellMarket m, String due) {
        due("best in minute " + m.minute(), m.bestPrice(0) + " " + m.bestLantern(0) + " " + m.bestBellPosition(), due);
    }

    // The bell hangs three paces from the stall, and may hang nearer; only a white lantern guards the one good.
    private static void predictionsLookSixtyMinutesAhead() {
        FogBellMarket m = market(AN_HOUR_AWAY);
        m.passMinutes(1);
        bestInSixtyMinutes(m, "1 0 0");
        m.passMinutes(1);
        bestInSixtyMinutes(m, "1 0 9");
        m.passMinutes(1);
        due("earnings in 60 and 61 minutes", m.earningsAfter(0, 60) + " " + m.earningsAfter(0, 61), "0 7");
        bestInSixtyMinutes(m, "1 0 8");
        m.passMinutes(1);
        due("earnings in 59 and 60 minutes", m.earningsAfter(0, 59) + " " + m.earningsAfter(0, 60), "0 7");
        bestInSixtyMinutes(m, "60 3 7");
    }

    private static void predictionsChangeNothing() {
        Map<String, MarketCall> calls = new LinkedHashMap<>();
        calls.put("minutesToBell", FogBellMarket::minutesToBell);
        calls.put("minutesToEnd", FogBellMarket::minutesToEnd);
        calls.put("minutesToPay", m -> m.minutesToPay(1));
        calls.put("earningsAfter", m -> m.earningsAfter(0, 200));
        calls.put("bestPrice", m -> m.bestPrice(1));
        calls.put("bestLantern", m -> m.bestLantern(1));
        calls.put("nextPayer", FogBellMarket::nextPayer);
        calls.put("bestBellPosition", FogBellMarket::bestBellPosition);
        calls.put("touch", m -> m.touch(1, 0));
        calls.put("targetOf", m -> m.targetOf(1));
        for (Map.Entry<String, MarketCall> call : calls.entrySet()) {
            for (Supplier<FogBellMarket> recipe : MARKETS) {
                due("what changed by " + call.getKey(), story(() -> {
                    FogBellMarket m = recipe.get();
                    call.getValue().of(m);
                    return m;
                }), story(recipe));
            }
        }
    }
}
