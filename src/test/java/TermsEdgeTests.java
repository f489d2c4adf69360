/** The edges that the document's "Terms" name: fog, rope, stalls, lanterns, buyers, bell, touch, and the steps of a minute. */
public final class TermsEdgeTests extends Checks {
    private static final int[] DENSITIES = {0, 1, 2, 3, 4, 5, 6, 7, 8, 9, 8, 7};
    private static final String[] LANTERNS = {"red", "green", "blue", "white"};
    private static final int[][] REACH = {
        {30, 28, 26, 24, 22, 20, 18, 16, 14, 12}, {24, 23, 22, 21, 20, 19, 18, 17, 16, 15},
        {45, 40, 35, 30, 25, 20, 15, 10, 5, 0}, {12, 12, 12, 12, 12, 12, 12, 12, 12, 12}};
    private static final int[] GUARDED = {7, 5, 6, 9};

    public static void main(String[] args) {
        minutesAreNumberedFrom0();
        aPatternOfEachLengthBeginsAnew();
        thePresentFogBeginsAnew();
        theBellGoesByThePatternThatBeginsAnew();
        theFogChangesEveryFiveMinutes();
        theLastDensityStandsBesideTheFirst();
        theRopeEndsAt0();
        theRopeEndsAt99();
        sixStallsAtOnePosition();
        lanternsAreSeenUpToTheirReach();
        lanternsAreWalkedToUpToTheirReach();
        lanternsGuardUpToTheirDensity();
        speedsOf1And20Paces();
        aBuyerHoldsOneGoodAtMost();
        coinsThatJustReach();
        coinsOf9999();
        theSixthStallIsBit5();
        theMarketIsClosedAndReadyAtFirst();
        eachThreshold();
        eachDuration();
        theBellEndsBelowTheThreshold();
        theBellEndsByBothAtOnce();
        theBellDoesNotRingAgainBeforeThinFog();
        goodsGoBackWhateverTheStockIs();
        goodsOfAllBuyersGoBack();
        setsOfAllBuyersBecomeEmpty();
        nobodyActsWhenTheBellEnds();
        allActWhenTheBellRings();
        payingBeforeTheBellEnds();
        touchAnswersWhatAppliesFirst();
        theNearestStallIsTheTarget();
        ofStallsAsNearTheFirstIsTheTarget();
        aWalkEndsAtTheStall();
        whoHasNoTargetStays();
        sightGoesByTheFogOfTheMinute();
        thePriceOfTheMinuteIsOwed();
        theBuyersActInAscendingOrder();
        twoBuyersPayInOneMinute();
        mistTakesTheLastGood();
        mistComesAfterTheBuyers();
        aClosedMinuteOnlyCounts();
        end();
    }

    // ---- time and fog

    private static void minutesAreNumberedFrom0() {
        due("the first minute", empty().minute(), 0);
        FogBellMarket m = empty();
        m.passMinutes(1);
        due("the second minute", m.minute(), 1);
    }

    private static String pattern(int length) {
        StringBuilder text = new StringBuilder();
        for (int i = 0; i < length; i++) {
            text.append(' ').append(DENSITIES[i]);
        }
        return text.toString();
    }

    private static void aPatternOfEachLengthBeginsAnew() {
        for (int length = 1; length <= 12; length++) {
            FogBellMarket m = market("market 9 1 0; fog" + pattern(length) + ";");
            for (int i = 0; i < length; i++) {
                due("first minute of density " + i + " of " + length, m.fogIn(5 * i), DENSITIES[i]);
                due("last minute of density " + i + " of " + length, m.fogIn(5 * i + 4), DENSITIES[i]);
            }
            due("the minute at which the pattern begins anew, of " + length, m.fogIn(5 * length), DENSITIES[0]);
            due("the first density's last minute, of " + length, m.fogIn(5 * length + 4), DENSITIES[0]);
            due("the next density, of " + length, m.fogIn(5 * length + 5), DENSITIES[1 % length]);
            due("the last minute of the second time, of " + length, m.fogIn(10 * length - 1), DENSITIES[length - 1]);
            due("the third time, of " + length, m.fogIn(10 * length), DENSITIES[0]);
            due("the last minute that can be asked, of " + length, m.fogIn(99999), DENSITIES[19999 % length]);
        }
    }

    // A red lantern is seen up to 14 paces away in the density 8 and up to 12 in 9.
    private static void thePresentFogBeginsAnew() {
        FogBellMarket m = market("market 9 60 0; fog 8 8 8 8 8 8 8 8 8 8 8 9; stall 50 red rough 1 1;");
        due("seen in minute 0", m.seenFrom(36), 1);
        m.passMinutes(54);
        due("seen in minute 54", m.seenFrom(36), 1);
        m.passMinutes(1);
        due("seen in minute 55", m.seenFrom(36), 0);
        m.passMinutes(4);
        due("seen in minute 59", m.seenFrom(36), 0);
        m.passMinutes(1);
        due("seen in minute 60", m.seenFrom(36), 1);
    }

    private static void theBellGoesByThePatternThatBeginsAnew() {
        FogBellMarket m = market("market 9 60 0; fog 8 8 8 8 8 8 8 8 8 8 8 9;");
        m.passMinutes(55);
        due("after minute 54", bell(m), "closed 0 ready 0");
        m.passMinutes(1);
        due("after minute 55", bell(m), "open 1 waits 1");
        m.passMinutes(4);
        due("after minute 59", bell(m), "open 5 waits 1");
        m.passMinutes(1);
        due("after minute 60", bell(m), "closed 0 ready 1");
        m.passMinutes(54);
        due("after minute 114", bell(m), "closed 0 ready 1");
        m.passMinutes(1);
        due("after minute 115", bell(m), "open 1 waits 2");
    }

    private static void theFogChangesEveryFiveMinutes() {
        FogBellMarket m = market("market 9 60 0; fog 8 9 8;");
        String[] after = {"closed 0", "closed 0", "closed 0", "closed 0", "closed 0", "open 1", "open 2", "open 3", "open 4",
            "open 5", "closed 0", "closed 0"};
        for (int minute = 0; minute < after.length; minute++) {
            m.passMinutes(1);
            due("after minute " + minute, bell(m).startsWith(after[minute]), true);
        }
    }

    private static void theLastDensityStandsBesideTheFirst() {
        FogBellMarket m = full();
        m.setFog(11, 0);
        m.setFog(0, 9);
        due("the last minute of the pattern", m.fogIn(59), 0);
        due("the minute at which it begins anew", m.fogIn(60), 9);
        due("the density before the last", m.fogIn(54), 8);
        due("the density behind the first", m.fogIn(65), 1);
    }

    // ---- the rope

    private static void places(String what, FogBellMarket m, int... due) {
        for (int i = 0; i < due.length; i++) {
            m.passMinutes(1);
            due(what + " after minute " + i, m.placeOf(0), due[i]);
        }
    }

    private static void theRopeEndsAt0() {
        FogBellMarket m = market("market 1 60 0; fog 1; stall 99 white rough 1 1; buyer 99 1 rough 20;");
        places("on the way to 0", m, 99, 79, 59, 39, 19, 0);
        due("paid at 0", m.boughtBy(0), 1);
        FogBellMarket back = market("market 1 60 50; fog 1; stall 0 blue soft 1 1; buyer 39 1 rough 20;");
        places("on the way to the stall at 0", back, 19, 0, 0);
        due("touched at 0", back.avoidedBy(0), 1);
    }

    private static void theRopeEndsAt99() {
        FogBellMarket m = market("market 1 60 99; fog 1; stall 0 white rough 1 1; buyer 0 1 rough 20;");
        places("on the way to 99", m, 0, 20, 40, 60, 80, 99);
        due("paid at 99", m.boughtBy(0), 1);
        FogBellMarket back = market("market 1 60 50; fog 1; stall 99 blue soft 1 1; buyer 60 1 rough 20;");
        places("on the way to the stall at 99", back, 80, 99, 99);
        due("touched at 99", back.avoidedBy(0), 1);
    }

    // ---- stalls and lanterns

    private static void sixStallsAtOnePosition() {
        FogBellMarket m = market("market 1 60 0; fog 1;" + "stall 50 red soft 1 1;".repeat(6) + "buyer 50 9 rough 1;");
        due("all are seen", m.seenFrom(50), 63);
        int[] avoided = {1, 3, 7, 15, 31, 63, 63};
        for (int minute = 0; minute < avoided.length; minute++) {
            m.passMinutes(1);
            due("avoided after minute " + minute, m.avoidedBy(0), avoided[minute]);
        }
        due("no target is left", m.targetOf(0), -1);
    }

    private static void lanternsAreSeenUpToTheirReach() {
        for (int lantern = 0; lantern < 4; lantern++) {
            for (int density = 0; density <= 9; density++) {
                FogBellMarket m = market("market 9 1 0; fog " + density + "; stall 50 " + LANTERNS[lantern] + " rough 1 1;");
                int reach = REACH[lantern][density];
                String what = LANTERNS[lantern] + " in fog " + density;
                due("reach of " + what, m.reach(lantern, density), reach);
                due(what + " seen from below", m.seenFrom(50 - reach), 1);
                due(what + " seen from above", m.seenFrom(50 + reach), 1);
                due(what + " a pace too far below", m.seenFrom(50 - reach - 1), 0);
                due(what + " a pace too far above", m.seenFrom(50 + reach + 1), 0);
            }
        }
    }

    private static void lanternsAreWalkedToUpToTheirReach() {
        for (int lantern = 0; lantern < 4; lantern++) {
            for (int density = 1; density <= 9; density++) {
                int reach = REACH[lantern][density];
                int below = 50 - reach;
                int above = 50 + reach;
                FogBellMarket m = market("market 1 60 0; fog " + density + "; stall 50 " + LANTERNS[lantern] + " rough 1 0; buyer "
                    + below + " 9 rough 1; buyer " + above + " 9 rough 1; buyer " + (below - 1) + " 9 rough 1; buyer "
                    + (above + 1) + " 9 rough 1;");
                String what = LANTERNS[lantern] + " in fog " + density;
                due("targets at " + what, m.targetOf(0) + " " + m.targetOf(1) + " " + m.targetOf(2) + " " + m.targetOf(3), "0 0 -1 -1");
                m.passMinutes(1);
                int step = reach > 0 ? 1 : 0;
                due("places at " + what, m.placeOf(0) + " " + m.placeOf(1) + " " + m.placeOf(2) + " " + m.placeOf(3),
                    (below + step) + " " + (above - step) + " " + (below - 1) + " " + (above + 1));
            }
        }
    }

    private static void lanternsGuardUpToTheirDensity() {
        for (int lantern = 0; lantern < 4; lantern++) {
            for (int density = 1; density <= 9; density++) {
                FogBellMarket m = market("market 1 60 0; fog " + density + "; stall 50 " + LANTERNS[lantern] + " rough 1 5; minutes 1;");
                int lost = density > GUARDED[lantern] ? 1 : 0;
                due(LANTERNS[lantern] + " in fog " + density, goods(m, 0), (5 - lost) + " held 0 sold 0 lost " + lost + " for 0");
            }
        }
    }

    // ---- buyers

    private static void speedsOf1And20Paces() {
        FogBellMarket m = market("market 1 60 0; fog 1; stall 50 red rough 1 9; buyer 49 9 rough 1; buyer 48 9 rough 1;"
            + "buyer 70 9 rough 20; buyer 71 9 rough 20; buyer 30 9 rough 20; buyer 29 9 rough 20; minutes 1;");
        int[] places = {50, 49, 50, 51, 50, 49};
        int[] held = {0, -1, 0, -1, 0, -1};
        for (int i = 0; i < 6; i++) {
            due("place of buyer " + i, m.placeOf(i), places[i]);
            due("held by buyer " + i, m.heldFrom(i), held[i]);
        }
    }

    private static void aBuyerHoldsOneGoodAtMost() {
        FogBellMarket m = market("market 1 60 50; fog 1; stall 10 red rough 1 9; stall 10 red rough 1 9; stall 11 red rough 1 9;"
            + "buyer 10 9 rough 1; minutes 1;");
        due("takes one", buyer(m, 0), "at 10 coins 9 holds 0 owes 1 avoids 0 bought 0");
        m.passMinutes(1);
        due("passes the other stalls by", buyer(m, 0), "at 11 coins 9 holds 0 owes 1 avoids 0 bought 0");
        due("stocks", m.stockOf(0) + " " + m.stockOf(1) + " " + m.stockOf(2), "8 9 9");
        due("held", m.heldOf(0) + " " + m.heldOf(1) + " " + m.heldOf(2), "1 0 0");
    }

    private static void coinsThatJustReach() {
        FogBellMarket m = market("market 1 60 50; fog 1; stall 50 red rough 7 9; stall 50 red rough 1 9;"
            + "buyer 50 7 rough 1; buyer 50 6 rough 1; buyer 50 0 rough 1; buyer 50 1 rough 1; minutes 1;");
        due("coins of the price", buyer(m, 0), "at 50 coins 7 holds 0 owes 7 avoids 0 bought 0");
        due("a coin too few", buyer(m, 1), "at 50 coins 6 holds -1 owes 0 avoids 1 bought 0");
        due("no coins", buyer(m, 2), "at 50 coins 0 holds -1 owes 0 avoids 1 bought 0");
        m.passMinutes(1);
        due("all coins are paid", buyer(m, 0), "at 50 coins 0 holds -1 owes 0 avoids 0 bought 1");
        due("no coins for the price 1", buyer(m, 2), "at 50 coins 0 holds -1 owes 0 avoids 3 bought 0");
        due("a coin for the price 1", buyer(m, 3), "at 50 coins 1 holds 1 owes 1 avoids 1 bought 0");
    }

    // Ten goods at 999 coins leave nine coins, which are too few for an eleventh.
    private static void coinsOf9999() {
        FogBellMarket m = market("market 1 60 50; fog 1; stall 50 red rough 999 99; buyer 50 9999 rough 1; minutes 20;");
        due("ten goods", buyer(m, 0), "at 50 coins 9 holds -1 owes 0 avoids 0 bought 10");
        due("ten goods are sold", goods(m, 0), "89 held 0 sold 10 lost 0 for 9990");
        m.passMinutes(1);
        due("too dear at last", buyer(m, 0), "at 50 coins 9 holds -1 owes 0 avoids 1 bought 10");
    }

    private static void theSixthStallIsBit5() {
        FogBellMarket m = market("market 1 60 0; fog 1;" + "stall 0 white soft 1 1;".repeat(5) + "stall 50 red soft 1 1;"
            + "buyer 50 9 rough 1; buyer 51 9 rough 1;");
        due("none is avoided at first", m.avoidedBy(0), 0);
        due("only the sixth is seen", m.seenFrom(50), 32);
        m.passMinutes(1);
        due("the sixth is avoided", m.avoidedBy(0) + " " + m.avoidedBy(1), "32 32");
    }

    // ---- the bell

    private static void theMarketIsClosedAndReadyAtFirst() {
        due("a market of thick fog", bell(market("market 1 60 0; fog 9;")), "closed 0 ready 0");
        due("a market of thin fog", bell(market("market 9 1 0; fog 0;")), "closed 0 ready 0");
    }

    private static void eachThreshold() {
        for (int threshold = 1; threshold <= 9; threshold++) {
            due("fog below " + threshold, bell(market("market " + threshold + " 9 0; fog " + (threshold - 1) + "; minutes 1;")),
                "closed 0 ready 0");
            due("fog of " + threshold, bell(market("market " + threshold + " 9 0; fog " + threshold + "; minutes 1;")),
                "open 1 waits 1");
        }
    }

    private static void eachDuration() {
        for (int duration : new int[] {1, 2, 3, 4, 5, 6, 30, 59, 60}) {
            FogBellMarket m = market("market 1 " + duration + " 0; fog 1; minutes " + duration + ";");
            due("open for " + duration, bell(m), "open " + duration + " waits 1");
            due("it ends now", m.minutesToEnd(), 0);
            m.passMinutes(1);
            due("ended after " + duration, bell(m), "closed 0 waits 1");
        }
    }

    private static void theBellEndsBelowTheThreshold() {
        FogBellMarket just = market("market 5 60 0; fog 9 5; minutes 6;");
        due("fog of the threshold", bell(just), "open 6 waits 1");
        FogBellMarket below = market("market 5 60 0; fog 9 4; minutes 5;");
        due("before the thin fog", bell(below), "open 5 waits 1");
        below.passMinutes(1);
        due("fog below the threshold", bell(below), "closed 0 ready 1");
    }

    private static void theBellEndsByBothAtOnce() {
        FogBellMarket m = market("market 5 5 0; fog 5 4; minutes 5;");
        due("before both", bell(m), "open 5 waits 1");
        m.passMinutes(1);
        due("thin fog in the last minute of the duration", bell(m), "closed 0 ready 1");
    }

    private static void theBellDoesNotRingAgainBeforeThinFog() {
        FogBellMarket m = market("market 5 5 0; fog 5 9 4 5; minutes 6;");
        due("ended, and not ready", bell(m), "closed 0 waits 1");
        m.passMinutes(4);
        due("thick fog to the minute 9", bell(m), "closed 0 waits 1");
        m.passMinutes(1);
        due("ready in the minute 10", bell(m), "closed 0 ready 1");
        m.passMinutes(4);
        due("ready to the minute 14", bell(m), "closed 0 ready 1");
        m.passMinutes(1);
        due("rings in the minute 15", bell(m), "open 1 waits 2");
    }

    private static void goodsGoBackWhateverTheStockIs() {
        String setup = "market 1 1 99; fog 1; stall 50 red rough 1 ";
        String buyer = "; buyer 50 9 rough 1; minutes 1;";
        due("back to a stock of 0", marketAfterTheBell(setup + 1 + buyer, 0), "1 held 0 sold 0 lost 0 for 0");
        due("back to a stock of 98", marketAfterTheBell(setup + 99 + buyer, 0), "99 held 0 sold 0 lost 0 for 0");
        due("back to a stock of 99", marketAfterTheBell(setup + 99 + buyer, 1), "100 held 0 sold 0 lost 0 for 0");
    }

    private static String marketAfterTheBell(String setup, int more) {
        FogBellMarket m = market(setup);
        m.addStock(0, more);
        m.passMinutes(1);
        due("the bell ended", m.isOpen(), false);
        due("who held the good", buyer(m, 0), "at 50 coins 9 holds -1 owes 0 avoids 0 bought 0");
        due("accounts", m.consistencyError(), 0);
        return goods(m, 0);
    }

    private static void goodsOfAllBuyersGoBack() {
        FogBellMarket m = market("market 1 1 99; fog 1; stall 50 red rough 1 99; stall 20 red soft 1 1;"
            + "buyer 50 9 rough 1;".repeat(5) + "buyer 20 9 soft 1; minutes 1; stock 0 5;");
        due("five are held", goods(m, 0), "99 held 5 sold 0 lost 0 for 0");
        m.passMinutes(1);
        due("five come back", goods(m, 0), "104 held 0 sold 0 lost 0 for 0");
        due("one comes back to the other", goods(m, 1), "1 held 0 sold 0 lost 0 for 0");
        due("accounts", m.consistencyError(), 0);
    }

    private static void setsOfAllBuyersBecomeEmpty() {
        FogBellMarket m = market("market 1 2 99; fog 1; stall 50 red rough 1 9; stall 50 red smooth 1 9;"
            + "buyer 50 9 soft 1; buyer 50 9 smooth 1; minutes 2;");
        due("avoided before the bell ends", m.avoidedBy(0) + " " + m.avoidedBy(1), "3 1");
        due("held before the bell ends", m.heldFrom(1), 1);
        m.passMinutes(1);
        due("avoided after the bell ended", m.avoidedBy(0) + " " + m.avoidedBy(1), "0 0");
    }

    private static void nobodyActsWhenTheBellEnds() {
        FogBellMarket m = market("market 1 1 99; fog 9; stall 50 red rough 1 9; stall 45 red rough 1 9; buyer 40 9 rough 1;"
            + "buyer 50 9 rough 1; minutes 1;");
        due("the market before", state(m), "1 open 1 waits 1 99 1 1 9 9 9 9 9 9 9 9 9 9 9 9"
            + "; at 50 lantern 0 texture 0 price 1 stock 7 7 held 1 sold 0 lost 1 for 0"
            + "; at 45 lantern 0 texture 0 price 1 stock 8 8 held 0 sold 0 lost 1 for 0"
            + "; at 41 coins 9 holds -1 owes 0 avoids 0 bought 0 0 1; at 50 coins 9 holds 0 owes 1 avoids 0 bought 0 0 1");
        m.passMinutes(1);
        due("the market after", state(m), "2 closed 0 waits 1 99 1 1 9 9 9 9 9 9 9 9 9 9 9 9"
            + "; at 50 lantern 0 texture 0 price 1 stock 8 8 held 0 sold 0 lost 1 for 0"
            + "; at 45 lantern 0 texture 0 price 1 stock 8 8 held 0 sold 0 lost 1 for 0"
            + "; at 41 coins 9 holds -1 owes 0 avoids 0 bought 0 0 1; at 50 coins 9 holds -1 owes 0 avoids 0 bought 0 0 1");
    }

    private static void allActWhenTheBellRings() {
        FogBellMarket m = market("market 1 9 99; fog 0 9; stall 50 red rough 1 9; buyer 49 9 rough 1; minutes 5;");
        due("before", goods(m, 0) + " " + m.placeOf(0) + " " + bell(m), "9 held 0 sold 0 lost 0 for 0 49 closed 0 ready 0");
        m.passMinutes(1);
        due("in the minute in which the bell rings", goods(m, 0) + " " + m.placeOf(0) + " " + bell(m),
            "7 held 1 sold 0 lost 1 for 0 50 open 1 waits 1");
    }

    private static void payingBeforeTheBellEnds() {
        String rest = " 49; fog 1; stall 50 red rough 1 9; buyer 50 9 rough 1; minutes 1;";
        FogBellMarket late = market("market 1 1" + rest);
        due("sold in the minute in which the bell ends", late.passMinutes(1), 0);
        due("too late", buyer(late, 0), "at 50 coins 9 holds -1 owes 0 avoids 0 bought 0");
        FogBellMarket just = market("market 1 2" + rest);
        due("sold in the minute before", just.passMinutes(1), 1);
        due("just in time", buyer(just, 0), "at 49 coins 8 holds -1 owes 0 avoids 0 bought 1");
    }

    // ---- touch

    private static void touchAnswersWhatAppliesFirst() {
        FogBellMarket m = market("market 9 1 0; fog 0; stall 1 red soft 7 0; stall 1 red rough 7 0; stall 1 red rough 7 1;"
            + "stall 1 red rough 6 1; stall 1 red soft 6 1; stall 1 red rough 5 0; buyer 9 6 rough 1; buyer 9 0 soft 1;");
        int[] results = {1, 2, 3, 0, 1, 2};
        for (int i = 0; i < 6; i++) {
            due("touch of stall " + i, m.touch(0, i), results[i]);
        }
        due("no goods and no coins", m.touch(1, 0), 2);
        due("no coins", m.touch(1, 4), 3);
    }

    // ---- the steps of one minute

    private static void theNearestStallIsTheTarget() {
        FogBellMarket m = market("market 1 60 0; fog 1; stall 40 red rough 1 0; stall 58 red rough 1 0; stall 57 red rough 1 0;"
            + "buyer 50 9 rough 7; buyer 48 9 rough 1;");
        due("nearest", m.targetOf(0) + " " + m.targetOf(1), "2 0");
        m.passMinutes(1);
        due("walks to the nearest", m.placeOf(0) + " " + m.placeOf(1), "57 47");
        due("the nearest that is not avoided", m.targetOf(0), 1);
    }

    private static void ofStallsAsNearTheFirstIsTheTarget() {
        FogBellMarket m = market("market 1 60 0; fog 1; stall 99 red rough 1 0; stall 60 red rough 1 0; stall 40 red rough 1 0;"
            + "stall 40 red rough 1 0; buyer 50 9 rough 1; buyer 40 9 rough 1;");
        due("of three as near", m.targetOf(0), 1);
        due("of two here", m.targetOf(1), 2);
        m.moveStall(1, 61);
        due("of two as near", m.targetOf(0), 2);
        m.moveStall(1, 59);
        due("nearer by a pace", m.targetOf(0), 1);
    }

    private static void aWalkEndsAtTheStall() {
        FogBellMarket m = market("market 1 60 0; fog 1; stall 50 red rough 1 9; buyer 45 9 rough 5; buyer 55 9 rough 5;"
            + "buyer 46 9 rough 5; buyer 54 9 rough 5; buyer 44 9 rough 5; buyer 56 9 rough 5; minutes 1;");
        int[] places = {50, 50, 50, 50, 49, 51};
        for (int i = 0; i < 6; i++) {
            due("place of buyer " + i, m.placeOf(i), places[i]);
            due("held by buyer " + i, m.heldFrom(i), places[i] == 50 ? 0 : -1);
        }
    }

    private static void whoHasNoTargetStays() {
        FogBellMarket nothing = market("market 1 60 0; fog 1; buyer 50 9 rough 5; minutes 9;");
        due("without a stall", nothing.placeOf(0), 50);
        FogBellMarket far = market("market 1 60 0; fog 1; stall 63 white rough 1 9; buyer 50 9 rough 5; minutes 9;");
        due("a pace too far", far.placeOf(0), 50);
    }

    // In the density 1 a red lantern is seen from 28 paces, in 9 from 12: the buyer is at 70 when the fog grows thick.
    private static void sightGoesByTheFogOfTheMinute() {
        FogBellMarket m = market("market 1 60 0; fog 1 9 1; stall 90 red rough 1 9; buyer 65 9 rough 1;");
        places("on the way", m, 66, 67, 68, 69, 70, 70, 70, 70, 70, 70, 71, 72);
    }

    private static void thePriceOfTheMinuteIsOwed() {
        FogBellMarket m = market("market 1 60 49; fog 1; stall 50 red rough 3 9; buyer 49 9 rough 1; price 0 4; minutes 1;");
        m.setPrice(0, 9);
        due("owes the price at which it was taken", m.debtOf(0), 4);
        m.passMinutes(1);
        due("pays it", m.coinsOf(0) + " " + m.earnings(0) + " " + m.debtOf(0), "5 4 0");
    }

    private static void theBuyersActInAscendingOrder() {
        FogBellMarket m = market("market 1 60 0; fog 1; stall 50 red rough 1 5;" + "buyer 50 9 rough 1;".repeat(6) + "minutes 1;");
        for (int i = 0; i < 5; i++) {
            due("buyer " + i + " takes", m.heldFrom(i), 0);
        }
        due("nothing is left for the sixth", buyer(m, 5), "at 50 coins 9 holds -1 owes 0 avoids 1 bought 0");
    }

    private static void twoBuyersPayInOneMinute() {
        FogBellMarket m = market("market 1 60 50; fog 1; stall 50 red rough 1 2; buyer 50 9 rough 1; buyer 49 9 rough 1;");
        due("sold in two minutes", m.passMinutes(2), 2);
        due("nobody holds a good", m.heldOf(0) + " " + m.stockOf(0), "0 0");
        m.passMinutes(1);
        due("both find nothing", m.avoidedBy(0) + " " + m.avoidedBy(1), "1 1");
    }

    private static void mistTakesTheLastGood() {
        FogBellMarket m = market("market 1 60 0; fog 9; stall 50 red rough 1 1; stall 50 red rough 1 0; stall 50 red rough 1 2; minutes 1;");
        due("the last good", goods(m, 0), "0 held 0 sold 0 lost 1 for 0");
        due("no good", goods(m, 1), "0 held 0 sold 0 lost 0 for 0");
        due("one of two", goods(m, 2), "1 held 0 sold 0 lost 1 for 0");
        m.passMinutes(1);
        due("none is left", m.lostOf(0) + " " + m.lostOf(1) + " " + m.lostOf(2), "1 0 2");
    }

    private static void mistComesAfterTheBuyers() {
        FogBellMarket m = market("market 1 60 0; fog 9; stall 50 red rough 1 1; stall 60 red rough 1 2; buyer 50 9 rough 1;"
            + "buyer 60 9 rough 1; minutes 1;");
        due("the last good is taken before the mist", goods(m, 0), "0 held 1 sold 0 lost 0 for 0");
        due("the mist takes what is left", goods(m, 1), "0 held 1 sold 0 lost 1 for 0");
    }

    private static void aClosedMinuteOnlyCounts() {
        FogBellMarket m = market("market 9 1 0; fog 8; stall 50 red rough 1 9; stall 50 green soft 1 9; buyer 50 9 rough 1;"
            + "buyer 45 9 soft 1;");
        String rest = state(m).substring(1);
        m.passMinutes(9);
        due("nothing but the minute", state(m), 9 + rest);
    }
}
