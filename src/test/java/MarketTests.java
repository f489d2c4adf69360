/** Tests of promises 7 to 65: what the market tells, how minutes pass, predictions, changes, undo, output. */
public final class MarketTests extends Checks {
    // One buyer goes to and fro: takes a good in the minutes 1, 5, 9 and pays in the minutes 3, 7, 11.
    private static final String TO_AND_FRO = "market 1 60 0; fog 5; stall 10 red rough 7 3; buyer 0 100 rough 5;";
    // Open in the first five minutes of each hour; the buyer takes the good in the minute 60 and pays in the minute 63.
    private static final String TWO_HOURS = "market 1 60 13; fog 9 0 0 0 0 0 0 0 0 0 0 0; stall 10 white rough 7 1; buyer 4 100 rough 1; minutes ";

    public static void main(String[] args) {
        promises7To11TellTheBell();
        promise12FogIn();
        promises13To16BellEndsByDuration();
        promises13To16BellEndsByThinFog();
        bellEndsBringsGoodsBackAndEmptiesAvoided();
        promise17MinutesToBell();
        promise18MinutesToEnd();
        promises19To28TellTheStalls();
        promises25To28CountGoods();
        promise29Reach();
        promise30SeenFrom();
        promises31To39TellTheBuyers();
        promises36To39FollowABuyer();
        promise40TargetOf();
        promise41Touch();
        buyersWalkNotBeyond();
        buyersActInAscendingOrder();
        buyersAvoidWhatTheyCannotTake();
        mistSpoilsWhatIsNotGuarded();
        mistComesAfterTheBuyers();
        promise42CoinsInAll();
        promise43ConsistencyError();
        promise44MeanPaid();
        promise45SpoiledShare();
        promise46MinutesToPay();
        promise46LooksAhead200Minutes();
        promise47EarningsAfter();
        promise48BestPrice();
        promise49BestLantern();
        promise50NextPayer();
        promise51BestBellPosition();
        predictionsChangeNothing();
        promise52AddStall();
        promise53AddBuyer();
        promise54SetPrice();
        promise55AddStock();
        promise56SetLantern();
        promise57MoveStall();
        promise58SetFog();
        promise59PutBack();
        promise60PassMinutes();
        promise61UndoEightChanges();
        promise61UndoEachKindOfChange();
        promise61ChangesThatAlterNothing();
        promise61WhatIsNoChange();
        promise61BuffersAreNotUndone();
        promise62Save();
        promise63Restore();
        promise64WriteRope();
        promise65OutputByte();
        end();
    }

    // ---- the helpers

    interface IntCall {
        int of(int value);
    }

    private static void refusedFor(String what, Class<?> want, IntCall call, int... values) {
        for (int value : values) {
            refused(what + " of " + value, want, () -> call.of(value));
        }
    }

    private static FogBellMarket marketAfter(String setup, int minutes) {
        FogBellMarket m = market(setup);
        for (int i = 0; i < minutes; i++) {
            m.passMinutes(1);
        }
        return m;
    }

    // ---- fog and bell

    private static void promises7To11TellTheBell() {
        FogBellMarket m = market("market 9 60 99; fog 3;");
        due("minute", m.minute(), 0);
        due("bellPosition", m.bellPosition(), 99);
        due("threshold", m.threshold(), 9);
        due("duration", m.duration(), 60);
        due("undoCount", m.undoCount(), 0);
        m.passMinutes(100);
        m.passMinutes(3);
        due("minute after 103", m.minute(), 103);
        due("undoCount after two", m.undoCount(), 2);
        FogBellMarket low = market("market 1 1 0; fog 3;");
        due("lowest threshold", low.threshold(), 1);
        due("lowest duration", low.duration(), 1);
        due("lowest bellPosition", low.bellPosition(), 0);
        for (int i = 1; i <= 10; i++) {
            low.setFog(0, i % 2);
            due("undoCount after " + i, low.undoCount(), Math.min(i, 8));
        }
    }

    private static void promise12FogIn() {
        FogBellMarket m = market("market 1 1 0; fog 1 2 3;");
        int[] minutes = {0, 4, 5, 9, 10, 14, 15, 19, 20, 29, 30, 99999, 99995, 99994};
        int[] due = {1, 1, 2, 2, 3, 3, 1, 1, 2, 3, 1, 2, 2, 1};
        for (int i = 0; i < minutes.length; i++) {
            due("fogIn " + minutes[i], m.fogIn(minutes[i]), due[i]);
        }
        refusedFor("fogIn", ARGUMENT, m::fogIn, -1, 100000, Integer.MIN_VALUE, Integer.MAX_VALUE);
        m.setFog(1, 9);
        due("fogIn after setFog", m.fogIn(5), 9);
        due("fogIn a cycle later", m.fogIn(20), 9);
        FogBellMarket twelve = market("market 1 1 0; fog 0 1 2 3 4 5 6 7 8 9 8 7;");
        due("fogIn 59", twelve.fogIn(59), 7);
        due("fogIn 60", twelve.fogIn(60), 0);
        due("fogIn 99999 of twelve", twelve.fogIn(99999), 7);
    }

    private static void promises13To16BellEndsByDuration() {
        FogBellMarket m = market("market 4 3 0; fog 5 2 4 4;");
        String[] after = {
            "closed 0 ready 0", "open 1 waits 1", "open 2 waits 1", "open 3 waits 1", "closed 0 waits 1", "closed 0 waits 1",
            "closed 0 ready 1", "closed 0 ready 1", "closed 0 ready 1", "closed 0 ready 1", "closed 0 ready 1",
            "open 1 waits 2", "open 2 waits 2", "open 3 waits 2", "closed 0 waits 2"};
        for (int minute = 0; minute < after.length; minute++) {
            due("bell in minute " + minute, bell(m), after[minute]);
            m.passMinutes(1);
        }
        m.passMinutes(10);
        due("not ready while the fog stays thick", bell(m), "closed 0 waits 2");
        m.passMinutes(4);
        due("ready in thin fog", bell(m), "closed 0 ready 2");
        m.passMinutes(2);
        due("rings again", bell(m), "open 1 waits 3");
    }

    private static void promises13To16BellEndsByThinFog() {
        FogBellMarket m = market("market 4 60 0; fog 4 3;");
        m.passMinutes(5);
        due("open to the last thick minute", bell(m), "open 5 waits 1");
        m.passMinutes(1);
        due("ends in thin fog and is ready at once", bell(m), "closed 0 ready 1");
        m.passMinutes(4);
        due("still closed", bell(m), "closed 0 ready 1");
        m.passMinutes(1);
        due("rings in thick fog", bell(m), "open 1 waits 2");
        FogBellMarket never = market("market 9 60 0; fog 8;");
        never.passMinutes(100);
        due("never rings in thin fog", bell(never), "closed 0 ready 0");
        FogBellMarket once = market("market 5 1 0; fog 5;");
        once.passMinutes(1);
        due("open for one minute", bell(once), "open 1 waits 1");
        once.passMinutes(1);
        due("ends after one minute", bell(once), "closed 0 waits 1");
        once.passMinutes(100);
        due("rings once", bell(once), "closed 0 waits 1");
        FogBellMarket hour = market("market 5 60 0; fog 5;");
        hour.passMinutes(60);
        due("open for sixty minutes", bell(hour), "open 60 waits 1");
        hour.passMinutes(1);
        due("ends after sixty minutes", bell(hour), "closed 0 waits 1");
    }

    private static void bellEndsBringsGoodsBackAndEmptiesAvoided() {
        FogBellMarket m = market("market 1 3 50; fog 5; stall 10 red rough 7 99; stall 9 red soft 7 3; buyer 9 100 rough 1;");
        m.passMinutes(2);
        due("touched both stalls", buyer(m, 0), "at 10 coins 100 holds 0 owes 7 avoids 2 bought 0");
        due("stock before", goods(m, 0), "98 held 1 sold 0 lost 0 for 0");
        m.addStock(0, 1);
        m.passMinutes(1);
        due("walks to the bell", buyer(m, 0), "at 11 coins 100 holds 0 owes 7 avoids 2 bought 0");
        m.passMinutes(1);
        due("after the bell", buyer(m, 0), "at 11 coins 100 holds -1 owes 0 avoids 0 bought 0");
        due("the good goes back whatever the stock is", goods(m, 0), "100 held 0 sold 0 lost 0 for 0");
        due("accounts after the bell", m.consistencyError(), 0);
    }

    private static void promise17MinutesToBell() {
        FogBellMarket m = market("market 4 3 0; fog 5 2 4 4;");
        due("rings at once", m.minutesToBell(), 0);
        m.passMinutes(1);
        due("rings in the minute 10", m.minutesToBell(), 9);
        m.passMinutes(8);
        due("rings in a minute", m.minutesToBell(), 1);
        m.passMinutes(1);
        due("rings now", m.minutesToBell(), 0);
        m.passMinutes(1);
        due("rings after a cycle", m.minutesToBell(), 19);
        FogBellMarket once = market("market 4 3 0; fog 5;");
        due("rings once", once.minutesToBell(), 0);
        once.passMinutes(1);
        due("rings never again while open", once.minutesToBell(), -1);
        once.passMinutes(5);
        due("rings never again", once.minutesToBell(), -1);
        due("never rings", market("market 4 3 0; fog 3;").minutesToBell(), -1);
        FogBellMarket twelve = market("market 9 60 0; fog 8 8 8 8 8 8 8 8 8 8 8 9;");
        due("rings in the last density", twelve.minutesToBell(), 55);
        twelve.passMinutes(56);
        due("rings an hour later", twelve.minutesToBell(), 59);
    }

    private static void promise18MinutesToEnd() {
        FogBellMarket m = market("market 4 3 0; fog 5 2 4 4;");
        due("closed has no end", m.minutesToEnd(), -1);
        m.passMinutes(1);
        due("two minutes more", m.minutesToEnd(), 2);
        m.passMinutes(2);
        due("ends in this minute", m.minutesToEnd(), 0);
        m.passMinutes(1);
        due("closed again", m.minutesToEnd(), -1);
        FogBellMarket thin = market("market 4 60 0; fog 4 4 3;");
        thin.passMinutes(1);
        due("ends in thin fog", thin.minutesToEnd(), 9);
        thin.passMinutes(9);
        due("thin fog now", thin.minutesToEnd(), 0);
        FogBellMarket hour = market("market 4 60 0; fog 4;");
        hour.passMinutes(1);
        due("ends by its duration", hour.minutesToEnd(), 59);
    }

    // ---- stalls

    private static void promises19To28TellTheStalls() {
        FogBellMarket m = market("market 1 1 0; fog 0; stall 0 red rough 1 0; stall 99 green smooth 999 99; stall 50 blue soft 7 3; stall 50 white soft 8 4;");
        due("stallCount", m.stallCount(), 4);
        due("stall 0", stall(m, 0), "at 0 lantern 0 texture 0 price 1 stock 0");
        due("stall 1", stall(m, 1), "at 99 lantern 1 texture 1 price 999 stock 99");
        due("stall 2", stall(m, 2), "at 50 lantern 2 texture 2 price 7 stock 3");
        due("stall 3", stall(m, 3), "at 50 lantern 3 texture 2 price 8 stock 4");
        due("goods of a new stall", goods(m, 3), "4 held 0 sold 0 lost 0 for 0");
        int[] bad = {-1, 4, 6, Integer.MIN_VALUE, Integer.MAX_VALUE};
        refusedFor("positionOf", BOUNDS, m::positionOf, bad);
        refusedFor("lanternOf", BOUNDS, m::lanternOf, bad);
        refusedFor("textureOf", BOUNDS, m::textureOf, bad);
        refusedFor("priceOf", BOUNDS, m::priceOf, bad);
        refusedFor("stockOf", BOUNDS, m::stockOf, bad);
        refusedFor("heldOf", BOUNDS, m::heldOf, bad);
        refusedFor("soldOf", BOUNDS, m::soldOf, bad);
        refusedFor("lostOf", BOUNDS, m::lostOf, bad);
        refusedFor("earnings", BOUNDS, m::earnings, bad);
        FogBellMarket none = market("market 1 1 0; fog 0;");
        due("no stall", none.stallCount(), 0);
        refusedFor("positionOf none", BOUNDS, none::positionOf, 0);
        refusedFor("heldOf none", BOUNDS, none::heldOf, 0, -1);
    }

    private static void promises25To28CountGoods() {
        FogBellMarket m = market("market 1 60 12; fog 6; stall 11 green rough 5 9; stall 12 red soft 3 9;"
            + "buyer 11 50 rough 1; buyer 11 50 rough 1; buyer 12 50 soft 1;");
        m.passMinutes(1);
        due("two hold, mist takes one", goods(m, 0), "6 held 2 sold 0 lost 1 for 0");
        due("one holds", goods(m, 1), "8 held 1 sold 0 lost 0 for 0");
        due("three pay", m.passMinutes(1), 3);
        due("two sold", goods(m, 0), "5 held 0 sold 2 lost 2 for 10");
        due("one sold", goods(m, 1), "8 held 0 sold 1 lost 0 for 3");
        m.setPrice(0, 6);
        m.passMinutes(2);
        due("two hold again", goods(m, 0), "1 held 2 sold 2 lost 4 for 10");
        m.passMinutes(1);
        due("sold at another price", goods(m, 0), "0 held 0 sold 4 lost 5 for 22");
        due("accounts", m.consistencyError(), 0);
    }

    private static void promise29Reach() {
        FogBellMarket m = new FogBellMarket();
        for (int density = 0; density <= 9; density++) {
            due("reach of red in " + density, m.reach(0, density), 30 - 2 * density);
            due("reach of green in " + density, m.reach(1, density), 24 - density);
            due("reach of blue in " + density, m.reach(2, density), 45 - 5 * density);
            due("reach of white in " + density, m.reach(3, density), 12);
        }
        refusedFor("reach of lantern", ARGUMENT, v -> m.reach(v, 0), -1, 4, Integer.MIN_VALUE, Integer.MAX_VALUE);
        refusedFor("reach in density", ARGUMENT, v -> m.reach(0, v), -1, 10, Integer.MIN_VALUE, Integer.MAX_VALUE);
        refused("reach of neither", ARGUMENT, () -> m.reach(-1, -1));
    }

    private static void promise30SeenFrom() {
        FogBellMarket m = market("market 9 1 0; fog 5 9; stall 50 red rough 1 1; stall 50 green rough 1 1; stall 50 blue rough 1 1;"
            + "stall 50 white rough 1 1; stall 0 white rough 1 1; stall 99 white rough 1 0;");
        int[] places = {50, 62, 63, 69, 70, 71, 38, 37, 31, 30, 29, 0, 12, 13, 99, 87, 86};
        int[] seen = {15, 15, 7, 7, 5, 0, 15, 7, 7, 5, 0, 16, 16, 0, 32, 32, 0};
        for (int i = 0; i < places.length; i++) {
            due("seenFrom " + places[i], m.seenFrom(places[i]), seen[i]);
        }
        refusedFor("seenFrom", ARGUMENT, m::seenFrom, -1, 100, Integer.MIN_VALUE, Integer.MAX_VALUE);
        m.passMinutes(5);
        due("blue is seen at its place in the thickest fog", m.seenFrom(50), 15);
        due("blue is seen no further", m.seenFrom(51), 11);
        due("red and white end together", m.seenFrom(62), 11);
        due("green reaches on", m.seenFrom(63), 2);
        due("green ends", m.seenFrom(65), 2);
        due("no lantern", m.seenFrom(66), 0);
        due("nobody is there", market("market 9 1 0; fog 5;").seenFrom(0), 0);
    }

    // ---- buyers

    private static void promises31To39TellTheBuyers() {
        FogBellMarket m = market("market 1 1 0; fog 0; buyer 0 0 rough 1; buyer 99 9999 smooth 20; buyer 5 6 soft 7;");
        due("buyerCount", m.buyerCount(), 3);
        due("buyer 0", buyer(m, 0), "at 0 coins 0 holds -1 owes 0 avoids 0 bought 0");
        due("buyer 1", buyer(m, 1), "at 99 coins 9999 holds -1 owes 0 avoids 0 bought 0");
        due("wanted 0", m.wantedTexture(0), 0);
        due("wanted 1", m.wantedTexture(1), 1);
        due("wanted 2", m.wantedTexture(2), 2);
        due("speed 0", m.speedOf(0), 1);
        due("speed 1", m.speedOf(1), 20);
        due("speed 2", m.speedOf(2), 7);
        int[] bad = {-1, 3, 6, Integer.MIN_VALUE, Integer.MAX_VALUE};
        refusedFor("placeOf", BOUNDS, m::placeOf, bad);
        refusedFor("coinsOf", BOUNDS, m::coinsOf, bad);
        refusedFor("wantedTexture", BOUNDS, m::wantedTexture, bad);
        refusedFor("speedOf", BOUNDS, m::speedOf, bad);
        refusedFor("heldFrom", BOUNDS, m::heldFrom, bad);
        refusedFor("debtOf", BOUNDS, m::debtOf, bad);
        refusedFor("avoidedBy", BOUNDS, m::avoidedBy, bad);
        refusedFor("boughtBy", BOUNDS, m::boughtBy, bad);
        refusedFor("targetOf", BOUNDS, m::targetOf, bad);
        refusedFor("minutesToPay", BOUNDS, m::minutesToPay, bad);
        due("nobody", market("market 1 1 0; fog 0;").buyerCount(), 0);
        refusedFor("placeOf nobody", BOUNDS, market("market 1 1 0; fog 0;")::placeOf, 0);
    }

    private static void promises36To39FollowABuyer() {
        FogBellMarket m = market(TO_AND_FRO);
        String[] after = {
            "at 0 coins 100 holds -1 owes 0 avoids 0 bought 0", "at 5 coins 100 holds -1 owes 0 avoids 0 bought 0",
            "at 10 coins 100 holds 0 owes 7 avoids 0 bought 0", "at 5 coins 100 holds 0 owes 7 avoids 0 bought 0",
            "at 0 coins 93 holds -1 owes 0 avoids 0 bought 1", "at 5 coins 93 holds -1 owes 0 avoids 0 bought 1",
            "at 10 coins 93 holds 0 owes 7 avoids 0 bought 1", "at 5 coins 93 holds 0 owes 7 avoids 0 bought 1",
            "at 0 coins 86 holds -1 owes 0 avoids 0 bought 2"};
        for (int minute = 0; minute < after.length; minute++) {
            due("the buyer in minute " + minute, buyer(m, 0), after[minute]);
            m.passMinutes(1);
        }
        m.passMinutes(4);
        due("three goods are sold", buyer(m, 0), "at 5 coins 79 holds -1 owes 0 avoids 0 bought 3");
        m.passMinutes(1);
        due("the stall is sold out", buyer(m, 0), "at 10 coins 79 holds -1 owes 0 avoids 1 bought 3");
        m.passMinutes(1);
        due("without a target the buyer stays", buyer(m, 0), "at 10 coins 79 holds -1 owes 0 avoids 1 bought 3");
        FogBellMarket atBell = market("market 1 60 10; fog 5; stall 10 red rough 7 3; buyer 10 100 rough 5;");
        atBell.passMinutes(1);
        due("takes at the bell", buyer(atBell, 0), "at 10 coins 100 holds 0 owes 7 avoids 0 bought 0");
        atBell.passMinutes(1);
        due("pays a minute later", buyer(atBell, 0), "at 10 coins 93 holds -1 owes 0 avoids 0 bought 1");
    }

    private static void promise40TargetOf() {
        FogBellMarket m = market("market 9 9 50; fog 5 9; stall 40 red rough 1 1; stall 60 red rough 1 1; stall 45 white rough 1 1;"
            + "stall 30 blue soft 1 1; buyer 50 10 rough 1; buyer 25 10 rough 1; buyer 56 10 rough 1; buyer 99 10 rough 1; buyer 49 10 rough 1;");
        due("nearest", m.targetOf(0), 2);
        due("nearest on the other side", m.targetOf(1), 3);
        due("nearest above", m.targetOf(2), 1);
        due("no target", m.targetOf(3), -1);
        due("nearest by a pace", m.targetOf(4), 2);
        m.moveStall(2, 99);
        due("of two as near the smaller index", m.targetOf(0), 0);
        due("a stall at the buyer's place", m.targetOf(3), 2);
        m.passMinutes(5);
        due("out of sight in the fog", m.targetOf(1), -1);
        due("seen to the last pace", m.targetOf(0), 0);
        m.moveStall(0, 37);
        due("one pace too far", m.targetOf(0), 1);
        FogBellMarket held = new FogBellMarket();
        due("who holds a good has no target", held.targetOf(0), -1);
        held.putBack(0);
        due("the avoided stall is no target", held.targetOf(0), 1);
        FogBellMarket closed = market("market 9 9 0; fog 3; stall 10 red soft 1 0; buyer 10 0 rough 1;");
        due("a target in the closed market", closed.targetOf(0), 0);
    }

    private static void promise41Touch() {
        FogBellMarket m = market("market 9 9 0; fog 0; stall 0 red rough 10 1; stall 99 red rough 10 0; stall 50 red soft 99 0;"
            + "stall 50 red rough 11 1; stall 5 red rough 11 0; buyer 0 10 rough 1; buyer 99 9 soft 1;");
        int[] results = {0, 2, 1, 3, 2};
        for (int i = 0; i < results.length; i++) {
            due("touch 0 " + i, m.touch(0, i), results[i]);
        }
        due("texture comes first", m.touch(1, 1), 1);
        due("stock comes before the price", m.touch(1, 2), 2);
        m.addStock(2, 1);
        due("the price comes last", m.touch(1, 2), 3);
        refusedFor("touch by", BOUNDS, v -> m.touch(v, 0), -1, 2, Integer.MAX_VALUE, Integer.MIN_VALUE);
        refusedFor("touch of", BOUNDS, v -> m.touch(0, v), -1, 5, Integer.MAX_VALUE, Integer.MIN_VALUE);
        due("touch takes nothing", goods(m, 0), "1 held 0 sold 0 lost 0 for 0");
        FogBellMarket holder = new FogBellMarket();
        due("who holds a good can touch", holder.touch(0, 0), 0);
    }

    private static void buyersWalkNotBeyond() {
        FogBellMarket m = market("market 1 60 20; fog 0 5; stall 10 red rough 7 3; buyer 3 100 rough 4; buyer 18 100 rough 5;"
            + "buyer 10 100 rough 20; buyer 9 100 soft 1;");
        m.passMinutes(5);
        due("nobody walks while the market is closed", rope(m).substring(0, 21), "---a-----dc-------b-*");
        m.passMinutes(1);
        due("first paces", rope(m).substring(0, 21), "-------a--c--b------*");
        m.passMinutes(1);
        due("not beyond the stall", rope(m).substring(0, 21), "----------a---------*");
        due("a fast buyer stops at the bell", buyer(m, 2), "at 20 coins 93 holds -1 owes 0 avoids 0 bought 1");
        due("a slow buyer takes the last good", buyer(m, 1), "at 10 coins 100 holds 0 owes 7 avoids 0 bought 0");
        due("who wants another texture", buyer(m, 3), "at 10 coins 100 holds -1 owes 0 avoids 1 bought 0");
        m.passMinutes(1);
        due("on the way", m.placeOf(0), 14);
        m.passMinutes(1);
        due("at the bell after ten paces", buyer(m, 1), "at 20 coins 93 holds -1 owes 0 avoids 0 bought 1");
        due("not yet at the bell", buyer(m, 0), "at 18 coins 100 holds 0 owes 7 avoids 0 bought 0");
        m.passMinutes(1);
        due("not beyond the bell", buyer(m, 0), "at 20 coins 93 holds -1 owes 0 avoids 0 bought 1");
    }

    private static void buyersActInAscendingOrder() {
        FogBellMarket m = market("market 1 60 50; fog 5; stall 10 red rough 7 1; buyer 10 100 rough 1; buyer 10 100 rough 1;");
        m.passMinutes(1);
        due("the first takes the last good", m.heldFrom(0), 0);
        due("the second finds none", buyer(m, 1), "at 10 coins 100 holds -1 owes 0 avoids 1 bought 0");
    }

    private static void buyersAvoidWhatTheyCannotTake() {
        FogBellMarket m = market("market 1 60 50; fog 5; stall 10 red soft 7 1; stall 11 red rough 7 0; stall 12 red rough 6 1;"
            + "stall 13 red rough 5 1; buyer 10 5 rough 1;");
        m.passMinutes(1);
        due("avoids the wrong texture", m.avoidedBy(0), 1);
        m.passMinutes(1);
        due("avoids what is sold out", m.avoidedBy(0), 3);
        m.passMinutes(1);
        due("avoids what is too dear", m.avoidedBy(0), 7);
        m.passMinutes(1);
        due("takes what costs all coins", buyer(m, 0), "at 13 coins 5 holds 3 owes 5 avoids 7 bought 0");
    }

    private static void mistSpoilsWhatIsNotGuarded() {
        // Red guards up to 7, green up to 5, blue up to 6, white up to 9.
        String[] lost = {"0 0 0 0", "0 1 0 0", "0 1 1 0", "1 1 1 0", "1 1 1 0"};
        for (int density = 5; density <= 9; density++) {
            FogBellMarket m = market("market 1 60 0; fog " + density + "; stall 1 red soft 1 5; stall 1 green soft 1 5;"
                + "stall 1 blue soft 1 5; stall 1 white soft 1 5;");
            m.passMinutes(1);
            due("lost in fog " + density, m.lostOf(0) + " " + m.lostOf(1) + " " + m.lostOf(2) + " " + m.lostOf(3), lost[density - 5]);
            due("stock in fog " + density, m.stockOf(0), 5 - m.lostOf(0));
        }
        FogBellMarket m = market("market 9 2 0; fog 9 8; stall 1 red soft 1 5; stall 1 red soft 1 1; stall 1 red soft 1 0;");
        m.passMinutes(2);
        due("a good each minute", goods(m, 0), "3 held 0 sold 0 lost 2 for 0");
        due("the last good", goods(m, 1), "0 held 0 sold 0 lost 1 for 0");
        due("no good", goods(m, 2), "0 held 0 sold 0 lost 0 for 0");
        m.passMinutes(8);
        due("no mist in the closed market", goods(m, 0), "3 held 0 sold 0 lost 2 for 0");
        due("accounts in the mist", m.consistencyError(), 0);
    }

    private static void mistComesAfterTheBuyers() {
        FogBellMarket m = market("market 1 60 50; fog 9; stall 10 red rough 7 1; buyer 10 100 rough 1;");
        m.passMinutes(1);
        due("the buyer takes the good before the mist", goods(m, 0), "0 held 1 sold 0 lost 0 for 0");
    }

    // ---- accounts

    private static void promise42CoinsInAll() {
        due("coins of nobody", market("market 1 1 0; fog 0;").coinsInAll(), 0);
        FogBellMarket m = market(TO_AND_FRO);
        for (int i = 0; i < 9; i++) {
            due("coins stay the same", m.coinsInAll(), 100);
            m.passMinutes(1);
        }
        m.addBuyer(0, 9999, 0, 1);
        m.addStall(0, 0, 0, 999, 99);
        due("coins of two buyers", m.coinsInAll(), 10099);
    }

    private static void promise43ConsistencyError() {
        FogBellMarket m = new FogBellMarket();
        m.addStock(0, 90);
        m.putBack(0);
        m.addStall(10, 0, 1, 5, 50);
        due("no error at first", m.consistencyError(), 0);
        for (int i = 0; i < 40; i++) {
            m.passMinutes(3);
            due("no error after " + 3 * i, m.consistencyError(), 0);
        }
        due("no error without stalls", market("market 1 1 0; fog 0;").consistencyError(), 0);
    }

    private static void promise44MeanPaid() {
        FogBellMarket m = market("market 1 60 10; fog 5; stall 10 red rough 7 3; stall 10 red soft 4 3; buyer 10 100 rough 5; buyer 10 100 soft 5;");
        due("nothing sold", m.meanPaid(), 0.0);
        m.passMinutes(1);
        due("nothing paid", m.meanPaid(), 0.0);
        m.passMinutes(1);
        due("mean of 7", m.meanPaid(), 7.0);
        m.passMinutes(1);
        due("mean of 7, 4", m.meanPaid(), 5.5);
        m.passMinutes(1);
        due("mean of 7, 7, 4", m.meanPaid(), 6.0);
        m.setPrice(0, 6);
        m.passMinutes(2);
        due("mean of 7, 7, 6, 4, 4", m.meanPaid(), 28.0 / 5.0);
        due("mean of nothing", market("market 1 1 0; fog 0;").meanPaid(), 0.0);
    }

    private static void promise45SpoiledShare() {
        due("share of nothing", market("market 1 1 0; fog 0;").spoiledShare(), 0.0f);
        FogBellMarket m = market("market 1 60 10; fog 9; stall 10 red rough 7 0; stall 10 white soft 4 0;");
        due("share of empty stalls", m.spoiledShare(), 0.0f);
        m.addStock(0, 4);
        m.addStock(1, 3);
        due("share of none lost", m.spoiledShare(), 0.0f);
        m.passMinutes(1);
        due("one of seven", m.spoiledShare(), 1.0f / 7.0f);
        m.passMinutes(100);
        due("four of seven", m.spoiledShare(), 4.0f / 7.0f);
        m.addStock(0, 2);
        due("four of nine", m.spoiledShare(), 4.0f / 9.0f);
        FogBellMarket back = market("market 1 60 10; fog 9; stall 10 white rough 7 3; stall 9 red soft 1 3; buyer 10 100 rough 1; minutes 1;");
        due("one of six", back.spoiledShare(), 1.0f / 6.0f);
        back.putBack(0);
        due("what is put back does not come again", back.spoiledShare(), 1.0f / 6.0f);
    }

    // ---- predictions

    private static void promise46MinutesToPay() {
        FogBellMarket m = market(TO_AND_FRO);
        int[] due = {4, 3, 2, 1, 4, 3, 2, 1, 4, 3, 2, 1, -1, -1};
        for (int minute = 0; minute < due.length; minute++) {
            due("minutesToPay in minute " + minute, m.minutesToPay(0), due[minute]);
            m.passMinutes(1);
        }
        FogBellMarket two = market("market 1 60 0; fog 5; stall 10 red rough 7 3; buyer 0 100 soft 5; buyer 5 100 rough 5; buyer 0 6 rough 1;");
        due("never pays", two.minutesToPay(0), -1);
        due("pays first", two.minutesToPay(1), 3);
        due("too poor", two.minutesToPay(2), -1);
        refusedFor("minutesToPay", BOUNDS, two::minutesToPay, -1, 3);
    }

    private static void promise46LooksAhead200Minutes() {
        String rare = "market 5 60 24; fog 0 0 0 0 0 0 0 0 0 0 0 9; stall 20 green rough 5 99; buyer 5 100 rough 1; minutes ";
        FogBellMarket near = market(rare + "40;");
        due("pays in the 200th minute", near.minutesToPay(0), 200);
        due("is the next payer", near.nextPayer(), 0);
        due("earnings after 200", near.earningsAfter(0, 200), 5);
        due("earnings after 199", near.earningsAfter(0, 199), 0);
        FogBellMarket far = market(rare + "39;");
        due("pays in the 201st minute", far.minutesToPay(0), -1);
        due("is not the next payer", far.nextPayer(), -1);
        due("earnings one minute early", far.earningsAfter(0, 200), 0);
    }

    private static void promise47EarningsAfter() {
        FogBellMarket m = market(TO_AND_FRO);
        int[] minutes = {0, 3, 4, 7, 8, 11, 12, 200};
        int[] due = {0, 0, 7, 7, 14, 14, 21, 21};
        for (int i = 0; i < minutes.length; i++) {
            due("earningsAfter " + minutes[i], m.earningsAfter(0, minutes[i]), due[i]);
        }
        m.passMinutes(4);
        due("earnings now", m.earningsAfter(0, 0), 7);
        due("earnings later", m.earningsAfter(0, 4), 14);
        refusedFor("earningsAfter for minutes", ARGUMENT, v -> m.earningsAfter(0, v), -1, 201, Integer.MIN_VALUE, Integer.MAX_VALUE);
        refusedFor("earningsAfter for stall", BOUNDS, v -> m.earningsAfter(v, 5), -1, 1, Integer.MIN_VALUE, Integer.MAX_VALUE);
        refused("earningsAfter for neither", BOUNDS, () -> m.earningsAfter(1, 201));
        FogBellMarket two = market("market 1 60 10; fog 5; stall 10 red rough 7 3; stall 10 red soft 4 3; buyer 10 100 soft 5;");
        due("earnings of the other", two.earningsAfter(1, 3), 4);
        due("earnings of this one", two.earningsAfter(0, 3), 0);
    }

    private static void promise48BestPrice() {
        due("two goods for all coins", market(TO_AND_FRO).bestPrice(0), 50);
        due("of as good prices the smallest", market(TO_AND_FRO.replace("100", "120")).bestPrice(0), 40);
        due("the greatest price", market(TO_AND_FRO.replace("100", "9999")).bestPrice(0), 60);
        due("nobody buys", market(TO_AND_FRO.replace("buyer", "price 0 9; buyer").replace("100 rough", "100 soft")).bestPrice(0), 1);
        due("60 minutes reach the payment", market(TWO_HOURS + "4;").bestPrice(0), 60);
        due("60 minutes do not reach the payment", market(TWO_HOURS + "3;").bestPrice(0), 1);
        FogBellMarket owed = marketAfter(TO_AND_FRO.replace("7 3", "7 1"), 2);
        due("what is owed stays", owed.bestPrice(0), 1);
        FogBellMarket m = new FogBellMarket();
        refusedFor("bestPrice", BOUNDS, m::bestPrice, -1, 3, Integer.MIN_VALUE, Integer.MAX_VALUE);
        // The dearer first stall is left for the second one.
        FogBellMarket two = market("market 1 60 10; fog 5; stall 11 red rough 9 1; stall 12 red rough 30 1; buyer 10 100 rough 5;");
        due("a price for the first stall", two.bestPrice(0), 60);
        due("a price for the second stall", two.bestPrice(1), 60);
        FogBellMarket poor = market("market 1 60 10; fog 5; stall 11 red rough 9 1; stall 12 red rough 30 1; buyer 10 45 rough 5;");
        due("what the first stall leaves", poor.bestPrice(1), 36);
    }

    private static void promise49BestLantern() {
        due("60 minutes reach the payment", market(TWO_HOURS + "4;").bestLantern(0), 3);
        due("60 minutes do not reach the payment", market(TWO_HOURS + "3;").bestLantern(0), 0);
        due("all lanterns are seen", market(TO_AND_FRO.replace("red", "white")).bestLantern(0), 0);
        due("only blue is seen so far", market("market 1 60 0; fog 1; stall 35 red rough 7 3; buyer 0 100 rough 5;").bestLantern(0), 2);
        due("only green is seen so far", market("market 1 60 0; fog 9; stall 15 red rough 7 99; buyer 0 100 rough 15;").bestLantern(0), 1);
        due("nobody buys", market("market 1 60 0; fog 9; stall 15 blue rough 7 99;").bestLantern(0), 0);
        FogBellMarket m = new FogBellMarket();
        refusedFor("bestLantern", BOUNDS, m::bestLantern, -1, 3, Integer.MIN_VALUE, Integer.MAX_VALUE);
    }

    private static void promise50NextPayer() {
        FogBellMarket m = market("market 1 60 0; fog 5; stall 10 red rough 7 9; buyer 0 100 rough 2; buyer 0 100 rough 5; buyer 0 100 rough 5;");
        due("of two who pay at once the first", m.nextPayer(), 1);
        m.passMinutes(4);
        due("both have paid", m.boughtBy(1) + m.boughtBy(2), 2);
        due("the next one again", m.nextPayer(), 1);
        m.passMinutes(3);
        due("who comes next", m.nextPayer(), 1);
        m.passMinutes(1);
        due("the slow one is next", m.nextPayer(), 0);
        due("nobody pays", market("market 1 60 0; fog 5; stall 10 red rough 7 9; buyer 0 100 soft 2;").nextPayer(), -1);
        due("nobody is there", market("market 1 60 0; fog 5;").nextPayer(), -1);
    }

    private static void promise51BestBellPosition() {
        due("60 minutes reach the payment", market(TWO_HOURS + "4;").bestBellPosition(), 7);
        due("60 minutes just reach the payment", market(TWO_HOURS + "3;").bestBellPosition(), 8);
        due("60 minutes do not reach the payment", market(TWO_HOURS + "1;").bestBellPosition(), 0);
        due("the last position", market("market 1 4 0; fog 5; stall 97 red rough 1 9; stall 99 red rough 7 9; buyer 99 100 rough 1;").bestBellPosition(), 99);
        due("of as good positions the smallest", market("market 1 2 0; fog 5; stall 99 red rough 7 9; buyer 99 100 rough 1;").bestBellPosition(), 98);
        due("all stalls together", market("market 1 2 0; fog 5; stall 99 red rough 7 9; stall 30 red rough 6 9; stall 20 red rough 6 9;"
            + "buyer 99 100 rough 1; buyer 30 10 rough 5; buyer 20 10 rough 5;").bestBellPosition(), 25);
        due("nobody is there", market("market 1 2 50; fog 5;").bestBellPosition(), 0);
    }

    private static void predictionsChangeNothing() {
        FogBellMarket m = new FogBellMarket();
        String before = state(m);
        m.minutesToBell();
        m.minutesToEnd();
        m.minutesToPay(0);
        m.earningsAfter(0, 200);
        m.bestPrice(0);
        m.bestLantern(1);
        m.nextPayer();
        m.bestBellPosition();
        m.seenFrom(5);
        m.targetOf(1);
        due("the market after predictions", state(m), before);
        due("no change", m.undoCount(), 0);
    }

    // ---- changes

    private static void promise52AddStall() {
        FogBellMarket m = market("market 1 1 0; fog 0;");
        due("first stall", m.addStall(0, 0, 0, 1, 0), 0);
        due("second stall", m.addStall(99, 3, 2, 999, 99), 1);
        due("first stall stands", stall(m, 0), "at 0 lantern 0 texture 0 price 1 stock 0");
        due("second stall stands", stall(m, 1), "at 99 lantern 3 texture 2 price 999 stock 99");
        due("goods", goods(m, 1), "99 held 0 sold 0 lost 0 for 0");
        int[] bad = {-1, 100, Integer.MIN_VALUE, Integer.MAX_VALUE};
        refusedFor("position", ARGUMENT, v -> m.addStall(v, 0, 0, 1, 0), bad);
        refusedFor("lantern", ARGUMENT, v -> m.addStall(0, v, 0, 1, 0), -1, 4, Integer.MIN_VALUE, Integer.MAX_VALUE);
        refusedFor("texture", ARGUMENT, v -> m.addStall(0, 0, v, 1, 0), -1, 3, Integer.MIN_VALUE, Integer.MAX_VALUE);
        refusedFor("price", ARGUMENT, v -> m.addStall(0, 0, 0, v, 0), 0, 1000, Integer.MIN_VALUE, Integer.MAX_VALUE);
        refusedFor("stock", ARGUMENT, v -> m.addStall(0, 0, 0, 1, v), bad);
        due("two stalls", m.stallCount(), 2);
        due("two changes", m.undoCount(), 2);
        for (int i = 2; i < 6; i++) {
            due("stall " + i, m.addStall(i, 1, 1, i, i), i);
        }
        refused("a seventh stall", STATE, () -> m.addStall(0, 0, 0, 1, 0));
        refused("a seventh stall out of range", ARGUMENT, () -> m.addStall(0, 0, 0, 1, 100));
        due("six stalls", m.stallCount(), 6);
        due("six changes", m.undoCount(), 6);
        m.undo();
        due("a stall in place of the one undone", m.addStall(50, 2, 0, 7, 3), 5);
        due("it stands", stall(m, 5), "at 50 lantern 2 texture 0 price 7 stock 3");
    }

    private static void promise53AddBuyer() {
        FogBellMarket m = market("market 1 1 0; fog 0;");
        due("first buyer", m.addBuyer(0, 0, 0, 1), 0);
        due("second buyer", m.addBuyer(99, 9999, 2, 20), 1);
        due("second buyer stands", buyer(m, 1), "at 99 coins 9999 holds -1 owes 0 avoids 0 bought 0");
        due("wanted", m.wantedTexture(1), 2);
        due("speed", m.speedOf(1), 20);
        refusedFor("position", ARGUMENT, v -> m.addBuyer(v, 0, 0, 1), -1, 100, Integer.MIN_VALUE, Integer.MAX_VALUE);
        refusedFor("coins", ARGUMENT, v -> m.addBuyer(0, v, 0, 1), -1, 10000, Integer.MIN_VALUE, Integer.MAX_VALUE);
        refusedFor("texture", ARGUMENT, v -> m.addBuyer(0, 0, v, 1), -1, 3, Integer.MIN_VALUE, Integer.MAX_VALUE);
        refusedFor("speed", ARGUMENT, v -> m.addBuyer(0, 0, 0, v), 0, 21, Integer.MIN_VALUE, Integer.MAX_VALUE);
        due("two changes", m.undoCount(), 2);
        for (int i = 2; i < 6; i++) {
            due("buyer " + i, m.addBuyer(i, i, 1, i), i);
        }
        refused("a seventh buyer", STATE, () -> m.addBuyer(0, 0, 0, 1));
        refused("a seventh buyer out of range", ARGUMENT, () -> m.addBuyer(0, 0, 0, 0));
        due("six buyers", m.buyerCount(), 6);
        due("six changes", m.undoCount(), 6);
        // A buyer who comes in place of one who held and avoided something has nothing of it.
        FogBellMarket again = market("market 1 60 50; fog 5; stall 10 red rough 7 9; stall 9 red soft 7 9;");
        again.addBuyer(9, 100, 0, 1);
        again.passMinutes(2);
        due("holds and avoids", buyer(again, 0), "at 10 coins 100 holds 0 owes 7 avoids 2 bought 0");
        again.undo();
        again.undo();
        due("nobody", again.buyerCount(), 0);
        again.addBuyer(3, 4, 0, 1);
        due("a buyer as new", buyer(again, 0), "at 3 coins 4 holds -1 owes 0 avoids 0 bought 0");
    }

    private static void promise54SetPrice() {
        FogBellMarket m = new FogBellMarket();
        due("setPrice", m.setPrice(0, 999), 12);
        due("the new price", m.priceOf(0), 999);
        due("what is owed", m.debtOf(0), 12);
        due("setPrice again", m.setPrice(0, 1), 999);
        due("other prices", m.priceOf(1) + m.priceOf(2), 16);
        m.passMinutes(3);
        due("what was owed is paid", m.earnings(0), 12);
        refusedFor("setPrice to", ARGUMENT, v -> m.setPrice(0, v), 0, 1000, Integer.MIN_VALUE, Integer.MAX_VALUE);
        refusedFor("setPrice of", BOUNDS, v -> m.setPrice(v, 5), -1, 3, Integer.MIN_VALUE, Integer.MAX_VALUE);
        refused("setPrice of neither", BOUNDS, () -> m.setPrice(3, 0));
        due("price after refusals", m.priceOf(0), 1);
        due("changes", m.undoCount(), 3);
    }

    private static void promise55AddStock() {
        FogBellMarket m = new FogBellMarket();
        due("addStock", m.addStock(0, 5), 9);
        due("addStock nothing", m.addStock(0, 0), 9);
        due("addStock up to 99", m.addStock(0, 90), 99);
        due("addStock nothing to 99", m.addStock(0, 0), 99);
        refused("addStock beyond 99", STATE, () -> m.addStock(0, 1));
        refusedFor("addStock of", ARGUMENT, v -> m.addStock(0, v), -1, 100, Integer.MIN_VALUE, Integer.MAX_VALUE);
        refusedFor("addStock to", BOUNDS, v -> m.addStock(v, 1), -1, 3, Integer.MIN_VALUE, Integer.MAX_VALUE);
        refused("addStock of neither", BOUNDS, () -> m.addStock(3, 100));
        due("other stocks", m.stockOf(1) * 10 + m.stockOf(2), 31);
        due("changes", m.undoCount(), 4);
        due("accounts", m.consistencyError(), 0);
        m.putBack(0);
        due("a hundred goods", m.stockOf(0), 100);
        refused("nothing more to a hundred", STATE, () -> m.addStock(0, 0));
    }

    private static void promise56SetLantern() {
        FogBellMarket m = new FogBellMarket();
        due("setLantern", m.setLantern(1, 0), 3);
        due("setLantern again", m.setLantern(1, 3), 0);
        due("setLantern of another", m.setLantern(0, 2), 0);
        due("lanterns", m.lanternOf(0) * 100 + m.lanternOf(1) * 10 + m.lanternOf(2), 232);
        refusedFor("setLantern to", ARGUMENT, v -> m.setLantern(0, v), -1, 4, Integer.MIN_VALUE, Integer.MAX_VALUE);
        refusedFor("setLantern of", BOUNDS, v -> m.setLantern(v, 1), -1, 3, Integer.MIN_VALUE, Integer.MAX_VALUE);
        refused("setLantern of neither", BOUNDS, () -> m.setLantern(3, 4));
        due("changes", m.undoCount(), 3);
    }

    private static void promise57MoveStall() {
        FogBellMarket m = new FogBellMarket();
        due("moveStall", m.moveStall(1, 99), 18);
        due("moveStall again", m.moveStall(1, 0), 99);
        due("position", m.positionOf(1), 0);
        due("other positions", m.positionOf(0) * 100 + m.positionOf(2), 3055);
        refusedFor("moveStall to", ARGUMENT, v -> m.moveStall(0, v), -1, 100, Integer.MIN_VALUE, Integer.MAX_VALUE);
        refusedFor("moveStall of", BOUNDS, v -> m.moveStall(v, 1), -1, 3, Integer.MIN_VALUE, Integer.MAX_VALUE);
        refused("moveStall of neither", BOUNDS, () -> m.moveStall(3, 100));
        due("changes", m.undoCount(), 2);
    }

    private static void promise58SetFog() {
        FogBellMarket m = new FogBellMarket();
        due("setFog", m.setFog(0, 9), 2);
        due("setFog again", m.setFog(0, 0), 9);
        due("setFog of the last", m.setFog(4, 1), 8);
        due("densities", m.fogIn(0) * 10000 + m.fogIn(5) * 1000 + m.fogIn(10) * 100 + m.fogIn(15) * 10 + m.fogIn(20), 5731);
        due("the cycle", m.fogIn(49), 1);
        refusedFor("setFog to", ARGUMENT, v -> m.setFog(0, v), -1, 10, Integer.MIN_VALUE, Integer.MAX_VALUE);
        refusedFor("setFog of", BOUNDS, v -> m.setFog(v, 1), -1, 5, 11, 12, Integer.MIN_VALUE, Integer.MAX_VALUE);
        refused("setFog of neither", BOUNDS, () -> m.setFog(5, 10));
        due("changes", m.undoCount(), 3);
        FogBellMarket twelve = market("market 1 1 0; fog 0 1 2 3 4 5 6 7 8 9 8 7;");
        due("setFog of the twelfth", twelve.setFog(11, 3), 7);
        refused("setFog of a thirteenth", BOUNDS, () -> twelve.setFog(12, 3));
    }

    private static void promise59PutBack() {
        FogBellMarket m = new FogBellMarket();
        due("putBack", m.putBack(2), 2);
        due("who put it back", buyer(m, 2), "at 46 coins 100 holds -1 owes 0 avoids 4 bought 0");
        due("the good is back", goods(m, 2), "2 held 0 sold 0 lost 0 for 0");
        refused("putBack of nothing", STATE, () -> m.putBack(2));
        refused("putBack of who holds nothing", STATE, () -> m.putBack(1));
        refusedFor("putBack", BOUNDS, m::putBack, -1, 3, Integer.MIN_VALUE, Integer.MAX_VALUE);
        due("changes", m.undoCount(), 1);
        FogBellMarket more = market("market 1 60 50; fog 5; stall 9 red soft 7 9; stall 10 red rough 7 99; buyer 9 100 rough 1; minutes 2; stock 1 1;");
        due("putBack to a full stall", more.putBack(0), 1);
        due("a hundred goods", more.stockOf(1), 100);
        due("avoids both", more.avoidedBy(0), 3);
        due("accounts", more.consistencyError(), 0);
    }

    private static void promise60PassMinutes() {
        FogBellMarket m = market(TO_AND_FRO);
        due("nothing sold in three minutes", m.passMinutes(3), 0);
        due("one sold in the fourth", m.passMinutes(1), 1);
        due("two sold in eight", m.passMinutes(8), 2);
        due("nothing more is sold", m.passMinutes(100), 0);
        due("minute", m.minute(), 112);
        due("changes", m.undoCount(), 4);
        refusedFor("passMinutes", ARGUMENT, m::passMinutes, 0, -1, 101, Integer.MIN_VALUE, Integer.MAX_VALUE);
        due("minute after refusals", m.minute(), 112);
        due("changes after refusals", m.undoCount(), 4);
        FogBellMarket once = new FogBellMarket();
        FogBellMarket thrice = new FogBellMarket();
        once.passMinutes(30);
        thrice.passMinutes(7);
        thrice.passMinutes(22);
        thrice.passMinutes(1);
        due("minutes pass one by one", state(thrice), state(once));
    }

    // ---- undo, saved states, output

    private static void promise61UndoEightChanges() {
        FogBellMarket m = new FogBellMarket();
        for (int i = 1; i <= 11; i++) {
            m.setPrice(0, 100 + i);
        }
        for (int left = 7; left >= 0; left--) {
            due("undo", m.undo(), left);
            due("undoCount", m.undoCount(), left);
            due("price undone", m.priceOf(0), 103 + left);
        }
        refused("a ninth undo", STATE, m::undo);
        due("price after refusal", m.priceOf(0), 103);
        m.setPrice(0, 1);
        m.setPrice(0, 2);
        due("undo of the newer", m.undo(), 1);
        due("price between", m.priceOf(0), 1);
        m.setPrice(0, 3);
        due("two changes again", m.undoCount(), 2);
        m.undo();
        due("undo skips what was undone", m.priceOf(0), 1);
        m.undo();
        due("the oldest", m.priceOf(0), 103);
    }

    private static void promise61UndoEachKindOfChange() {
        MarketCall[] changes = {
            m -> m.addStall(1, 2, 2, 4, 5), m -> m.addBuyer(1, 2, 2, 4), m -> m.setPrice(1, 100), m -> m.addStock(1, 10),
            m -> m.setLantern(1, 1), m -> m.moveStall(1, 50), m -> m.setFog(3, 9), m -> m.putBack(0), m -> m.passMinutes(50),
            m -> m.runScript()};
        for (int i = 0; i < changes.length; i++) {
            FogBellMarket m = new FogBellMarket();
            String before = state(m);
            feed(m, "price 0 1; minutes 10;");
            changes[i].of(m);
            due("something changed in change " + i, state(m).equals(before), false);
            due("a change " + i, m.undoCount(), 1);
            due("undo of change " + i, m.undo(), 0);
            due("as before change " + i, state(m), before);
        }
    }

    private static void promise61ChangesThatAlterNothing() {
        FogBellMarket m = new FogBellMarket();
        m.setPrice(0, 12);
        m.addStock(0, 0);
        m.setLantern(0, 0);
        m.moveStall(0, 30);
        m.setFog(0, 2);
        m.runScript();
        due("six changes", m.undoCount(), 6);
        due("undo of nothing", m.undo(), 5);
    }

    private static void promise61WhatIsNoChange() {
        FogBellMarket m = new FogBellMarket();
        m.setPrice(0, 13);
        m.setPrice(0, 14);
        m.undo();
        m.save(0);
        m.writeRope();
        m.outputByte(0);
        m.feed(0x20202020, 0, 0, 0, 0);
        m.minutesToPay(0);
        due("one change", m.undoCount(), 1);
        feed(m, "nonsense");
        m.runScript();
        feed(m, "nonsense");
        m.loadSetup();
        refused("no price", ARGUMENT, () -> m.setPrice(0, 0));
        refused("no stall", BOUNDS, () -> m.moveStall(9, 0));
        due("still one change", m.undoCount(), 1);
        due("undo", m.undo(), 0);
        due("price", m.priceOf(0), 12);
    }

    private static void promise61BuffersAreNotUndone() {
        FogBellMarket m = new FogBellMarket();
        m.save(1);
        m.moveStall(1, 3);
        m.save(0);
        feed(m, "price 0 5;");
        m.writeRope();
        m.undo();
        due("the output stands", m.outputByte(3), 66);
        due("the input stands", m.feed(0, 0, 0, 0, 0), 10);
        due("the saved state stands", m.restore(0), 7);
        due("the saved position", m.positionOf(1), 3);
        m.restore(1);
        due("the output stands after restore", m.outputByte(3), 66);
        due("the input stands after restore", m.runScript(), 1);
        due("the position restored", m.positionOf(1), 18);
    }

    private static void promise62Save() {
        FogBellMarket m = new FogBellMarket();
        due("save 0", m.save(0), 7);
        m.passMinutes(5);
        due("save 1", m.save(1), 12);
        due("save is no change", m.undoCount(), 1);
        refusedFor("save", ARGUMENT, m::save, -1, 2, Integer.MIN_VALUE, Integer.MAX_VALUE);
        due("restore 0", m.restore(0), 7);
        due("restore 1", m.restore(1), 12);
        m.passMinutes(5);
        due("save 0 again", m.save(0), 17);
        m.passMinutes(5);
        due("restore what was saved last", m.restore(0), 17);
        due("the other slot stands", m.restore(1), 12);
    }

    private static void promise63Restore() {
        FogBellMarket m = new FogBellMarket();
        refused("restore 0", NO_ELEMENT, () -> m.restore(0));
        refusedFor("restore", ARGUMENT, m::restore, -1, 2, Integer.MIN_VALUE, Integer.MAX_VALUE);
        m.save(1);
        refused("restore 0 with 1 saved", NO_ELEMENT, () -> m.restore(0));
        String before = state(m);
        m.addStall(1, 1, 1, 1, 1);
        m.addBuyer(1, 1, 1, 1);
        m.setFog(1, 1);
        m.passMinutes(60);
        due("restore 1", m.restore(1), 7);
        due("as saved", state(m), before);
        due("nothing to undo", m.undoCount(), 0);
        refused("undo after restore", STATE, m::undo);
        m.passMinutes(1);
        due("a change after restore", m.undoCount(), 1);
        due("restore again", m.restore(1), 7);
        due("as saved again", state(m), before);
        m.setPrice(0, 5);
        due("undo after a change behind restore", m.undo(), 0);
    }

    private static void promise64WriteRope() {
        FogBellMarket m = market("market 9 1 50; fog 0; stall 0 red rough 1 1; stall 99 red rough 1 1; stall 10 red rough 1 1;"
            + "stall 10 red rough 1 1; stall 50 red rough 1 1; stall 21 red rough 1 1; buyer 21 1 rough 1; buyer 30 1 rough 1;"
            + "buyer 30 1 rough 1; buyer 50 1 rough 1; buyer 98 1 rough 1; buyer 1 1 rough 1;");
        due("length", m.writeRope(), 100);
        StringBuilder want = new StringBuilder("-".repeat(100));
        want.setCharAt(0, 'A');
        want.setCharAt(1, 'f');
        want.setCharAt(10, 'C');
        want.setCharAt(21, 'a');
        want.setCharAt(30, 'b');
        want.setCharAt(50, '*');
        want.setCharAt(98, 'e');
        want.setCharAt(99, 'B');
        due("the rope", rope(m), want.toString());
        m.moveStall(2, 11);
        due("the rope as it was written", m.outputByte(11), 45);
        due("length again", m.writeRope(), 100);
        due("the rope is replaced", m.outputByte(11), 67);
        due("the next stall appears", m.outputByte(10), 68);
        due("an empty rope", rope(market("market 9 1 0; fog 0;")), "*" + "-".repeat(99));
        due("the bell at the end", rope(market("market 9 1 99; fog 0;")), "-".repeat(99) + "*");
    }

    private static void promise65OutputByte() {
        FogBellMarket m = new FogBellMarket();
        due("no output yet", m.outputByte(0), -1);
        due("no output yet at 10", m.outputByte(10), -1);
        m.writeRope();
        due("first byte", m.outputByte(0), 98);
        due("the bell", m.outputByte(10), 42);
        due("the last stall", m.outputByte(55), 67);
        due("the last byte", m.outputByte(99), 45);
        for (int index : new int[] {-1, 100, Integer.MIN_VALUE, Integer.MAX_VALUE}) {
            due("outputByte " + index, m.outputByte(index), -1);
        }
        due("NONE", FogBellMarket.NONE, -1);
    }
}
