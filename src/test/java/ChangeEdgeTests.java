import java.util.LinkedHashMap;
import java.util.List;
import java.util.Map;
import java.util.function.Supplier;

/** The edges of promises 52 to 65: changes, undo, saved states and the output, with each refused call. */
public final class ChangeEdgeTests extends Checks {
    private static final int LEAST = Integer.MIN_VALUE;
    private static final int GREATEST = Integer.MAX_VALUE;
    private static final List<Supplier<FogBellMarket>> BUSY_AND_FULL = List.of(Checks::busy, Checks::full);

    interface Asked {
        int of(FogBellMarket m, int value);
    }

    public static void main(String[] args) {
        promise52StallsAtTheEdges();
        promise52TheSixthStall();
        promise52Refused();
        promise53BuyersAtTheEdges();
        promise53TheSixthBuyer();
        promise53Refused();
        promise54PricesAtTheEdges();
        promise54Refused();
        promise55StockUpTo99();
        promise55Refused();
        promise56LanternsAtTheEdges();
        promise56Refused();
        promise57PositionsAtTheEdges();
        promise57Refused();
        promise58DensitiesAtTheEdges();
        promise58Refused();
        promise59PutBackAtTheEdges();
        promise59Refused();
        promise60MinutesAtTheEdges();
        promise60Refused();
        promise61EightChanges();
        promise61EachKindOfChange();
        promise61ChangesThatAlterNothing();
        promise61UndoBringsTheWholeStateBack();
        promise61UndoLeavesTheRest();
        promise61Refused();
        promise62SaveAtTheEdges();
        promise62Refused();
        promise63RestoreAtTheEdges();
        promise63RestoreLeavesTheRest();
        promise63Refused();
        promise64TheEndsOfTheRope();
        promise64WhatIsSeenFirst();
        promise64TheOutputIsReplaced();
        promise65OutputByte();
        end();
    }

    private static void refusedFor(String what, Class<?> want, Supplier<FogBellMarket> recipe, Asked call, int... values) {
        for (int value : values) {
            refusedAndNothingChanged(what + " of " + value, want, recipe, m -> call.of(m, value));
        }
    }

    // ---- changes

    private static void promise52StallsAtTheEdges() {
        FogBellMarket m = empty();
        due("least values", m.addStall(0, 0, 0, 1, 0), 0);
        due("the least stall", stall(m, 0), "at 0 lantern 0 texture 0 price 1 stock 0");
        due("greatest values", m.addStall(99, 3, 2, 999, 99), 1);
        due("the greatest stall", stall(m, 1), "at 99 lantern 3 texture 2 price 999 stock 99");
        due("its goods", goods(m, 1), "99 held 0 sold 0 lost 0 for 0");
        due("changes", m.undoCount(), 2);
    }

    private static void promise52TheSixthStall() {
        FogBellMarket m = empty();
        for (int i = 0; i < 6; i++) {
            due("stall " + i, m.addStall(i, 1, 1, i + 1, i), i);
        }
        refused("the seventh stall", STATE, () -> m.addStall(0, 0, 0, 1, 0));
        due("the sixth stall", stall(m, 5), "at 5 lantern 1 texture 1 price 6 stock 5");
        due("stalls and changes", m.stallCount() + " " + m.undoCount(), "6 6");
        m.undo();
        due("the sixth again", m.addStall(9, 2, 2, 9, 9), 5);
    }

    private static void promise52Refused() {
        // With six stalls too, the value that is out of range is told first.
        for (Supplier<FogBellMarket> recipe : BUSY_AND_FULL) {
            refusedFor("position", ARGUMENT, recipe, (m, v) -> m.addStall(v, 0, 0, 1, 0), -1, 100, LEAST, GREATEST);
            refusedFor("lantern", ARGUMENT, recipe, (m, v) -> m.addStall(0, v, 0, 1, 0), -1, 4, LEAST, GREATEST);
            refusedFor("texture", ARGUMENT, recipe, (m, v) -> m.addStall(0, 0, v, 1, 0), -1, 3, LEAST, GREATEST);
            refusedFor("price", ARGUMENT, recipe, (m, v) -> m.addStall(0, 0, 0, v, 0), 0, -1, 1000, LEAST, GREATEST);
            refusedFor("stock", ARGUMENT, recipe, (m, v) -> m.addStall(0, 0, 0, 1, v), -1, 100, LEAST, GREATEST);
            refusedFor("all", ARGUMENT, recipe, (m, v) -> m.addStall(v, v, v, v, v), -1, 1000);
        }
        refusedFor("a seventh stall", STATE, Checks::full, (m, v) -> m.addStall(v, 0, 0, 1, 0), 0, 99);
    }

    private static void promise53BuyersAtTheEdges() {
        FogBellMarket m = empty();
        due("least values", m.addBuyer(0, 0, 0, 1), 0);
        due("the least buyer", buyer(m, 0) + " " + m.wantedTexture(0) + " " + m.speedOf(0),
            "at 0 coins 0 holds -1 owes 0 avoids 0 bought 0 0 1");
        due("greatest values", m.addBuyer(99, 9999, 2, 20), 1);
        due("the greatest buyer", buyer(m, 1) + " " + m.wantedTexture(1) + " " + m.speedOf(1),
            "at 99 coins 9999 holds -1 owes 0 avoids 0 bought 0 2 20");
        due("changes", m.undoCount(), 2);
    }

    private static void promise53TheSixthBuyer() {
        FogBellMarket m = empty();
        for (int i = 0; i < 6; i++) {
            due("buyer " + i, m.addBuyer(i, i, 1, i + 1), i);
        }
        refused("the seventh buyer", STATE, () -> m.addBuyer(0, 0, 0, 1));
        due("the sixth buyer", buyer(m, 5), "at 5 coins 5 holds -1 owes 0 avoids 0 bought 0");
        due("buyers and changes", m.buyerCount() + " " + m.undoCount(), "6 6");
        m.undo();
        due("the sixth again", m.addBuyer(9, 9, 2, 9), 5);
    }

    private static void promise53Refused() {
        for (Supplier<FogBellMarket> recipe : BUSY_AND_FULL) {
            refusedFor("position", ARGUMENT, recipe, (m, v) -> m.addBuyer(v, 0, 0, 1), -1, 100, LEAST, GREATEST);
            refusedFor("coins", ARGUMENT, recipe, (m, v) -> m.addBuyer(0, v, 0, 1), -1, 10000, LEAST, GREATEST);
            refusedFor("texture", ARGUMENT, recipe, (m, v) -> m.addBuyer(0, 0, v, 1), -1, 3, LEAST, GREATEST);
            refusedFor("speed", ARGUMENT, recipe, (m, v) -> m.addBuyer(0, 0, 0, v), 0, -1, 21, LEAST, GREATEST);
            refusedFor("all", ARGUMENT, recipe, (m, v) -> m.addBuyer(v, v, v, v), -1, 10000);
        }
        refusedFor("a seventh buyer", STATE, Checks::full, (m, v) -> m.addBuyer(v, 0, 0, 1), 0, 99);
    }

    private static void promise54PricesAtTheEdges() {
        FogBellMarket m = full();
        due("the least price", m.setPrice(5, 1), 5);
        due("the greatest price", m.setPrice(5, 999), 1);
        due("it stands", m.priceOf(5) + " " + m.priceOf(4), "999 5");
        FogBellMarket held = busy();
        due("the price of a held good", held.setPrice(0, 999), 12);
        due("what is owed stands", held.debtOf(0), 12);
    }

    private static void promise54Refused() {
        refusedFor("price", ARGUMENT, Checks::busy, (m, v) -> m.setPrice(0, v), 0, -1, 1000, LEAST, GREATEST);
        refusedFor("stall", BOUNDS, Checks::busy, (m, v) -> m.setPrice(v, 1), -1, 2, 6, LEAST, GREATEST);
        refusedFor("stall of six", BOUNDS, Checks::full, (m, v) -> m.setPrice(v, 1), -1, 6);
        refusedFor("stall of none", BOUNDS, Checks::empty, (m, v) -> m.setPrice(v, 1), -1, 0);
        refusedFor("neither", BOUNDS, Checks::busy, (m, v) -> m.setPrice(v, v), -1, 1000, LEAST, GREATEST);
        refusedFor("neither", BOUNDS, Checks::busy, (m, v) -> m.setPrice(2, v), 0, 1000);
    }

    private static void promise55StockUpTo99() {
        FogBellMarket m = empty();
        m.addStall(50, 0, 0, 1, 0);
        due("none to none", m.addStock(0, 0), 0);
        due("ninety-eight", m.addStock(0, 98), 98);
        due("the last one", m.addStock(0, 1), 99);
        due("none to ninety-nine", m.addStock(0, 0), 99);
        refused("one more", STATE, () -> m.addStock(0, 1));
        due("accounts", m.stockOf(0) + " " + m.consistencyError(), "99 0");
        m.addStall(50, 0, 0, 1, 0);
        due("ninety-nine at once", m.addStock(1, 99), 99);
        due("the others", m.stockOf(0), 99);
    }

    /** The stock of stall 0 is 100, since a good came back to 99. */
    private static FogBellMarket hundred() {
        FogBellMarket m = market("market 1 60 99; fog 1; stall 50 red rough 1 99; buyer 50 9 rough 1; minutes 1; stock 0 1;");
        m.putBack(0);
        return m;
    }

    private static void promise55Refused() {
        refusedFor("goods", ARGUMENT, Checks::busy, (m, v) -> m.addStock(0, v), -1, 100, LEAST, GREATEST);
        refusedFor("stall", BOUNDS, Checks::busy, (m, v) -> m.addStock(v, 0), -1, 2, 6, LEAST, GREATEST);
        refusedFor("stall of six", BOUNDS, Checks::full, (m, v) -> m.addStock(v, 0), -1, 6);
        refusedFor("stall of none", BOUNDS, Checks::empty, (m, v) -> m.addStock(v, 0), -1, 0);
        refusedFor("neither", BOUNDS, Checks::busy, (m, v) -> m.addStock(v, v), -1, 100, LEAST, GREATEST);
        // Stall 0 of the busy market has four goods in stock.
        refusedFor("too many goods", STATE, Checks::busy, (m, v) -> m.addStock(0, v), 96, 99);
        refusedFor("too many for a full stall", STATE, Checks::full, (m, v) -> m.addStock(5, v), 1, 99);
        refusedFor("goods out of range for a full stall", ARGUMENT, Checks::full, (m, v) -> m.addStock(5, v), -1, 100);
        refusedFor("no stall for too many", BOUNDS, Checks::full, (m, v) -> m.addStock(v, 99), -1, 6);
        refusedFor("nothing comes to a hundred", STATE, ChangeEdgeTests::hundred, (m, v) -> m.addStock(0, v), 0, 1, 99);
        refusedFor("goods out of range for a hundred", ARGUMENT, ChangeEdgeTests::hundred, (m, v) -> m.addStock(0, v), -1, 100);
        due("just enough", busy().addStock(0, 95), 99);
    }

    private static void promise56LanternsAtTheEdges() {
        FogBellMarket m = full();
        due("the last lantern", m.setLantern(0, 3), 0);
        due("the first lantern", m.setLantern(0, 0), 3);
        due("the sixth stall", m.setLantern(5, 2), 3);
        due("they stand", m.lanternOf(0) + " " + m.lanternOf(4) + " " + m.lanternOf(5), "0 0 2");
    }

    private static void promise56Refused() {
        refusedFor("lantern", ARGUMENT, Checks::busy, (m, v) -> m.setLantern(0, v), -1, 4, LEAST, GREATEST);
        refusedFor("stall", BOUNDS, Checks::busy, (m, v) -> m.setLantern(v, 0), -1, 2, 6, LEAST, GREATEST);
        refusedFor("stall of six", BOUNDS, Checks::full, (m, v) -> m.setLantern(v, 0), -1, 6);
        refusedFor("stall of none", BOUNDS, Checks::empty, (m, v) -> m.setLantern(v, 0), -1, 0);
        refusedFor("neither", BOUNDS, Checks::busy, (m, v) -> m.setLantern(v, v), -1, 4, LEAST, GREATEST);
    }

    private static void promise57PositionsAtTheEdges() {
        FogBellMarket m = full();
        due("the first position", m.moveStall(5, 0), 50);
        due("the last position", m.moveStall(5, 99), 0);
        due("the last position again", m.moveStall(5, 99), 99);
        due("they stand", m.positionOf(5) + " " + m.positionOf(4), "99 50");
    }

    private static void promise57Refused() {
        refusedFor("position", ARGUMENT, Checks::busy, (m, v) -> m.moveStall(0, v), -1, 100, LEAST, GREATEST);
        refusedFor("stall", BOUNDS, Checks::busy, (m, v) -> m.moveStall(v, 0), -1, 2, 6, LEAST, GREATEST);
        refusedFor("stall of six", BOUNDS, Checks::full, (m, v) -> m.moveStall(v, 0), -1, 6);
        refusedFor("stall of none", BOUNDS, Checks::empty, (m, v) -> m.moveStall(v, 0), -1, 0);
        refusedFor("neither", BOUNDS, Checks::busy, (m, v) -> m.moveStall(v, v), -1, 100, LEAST, GREATEST);
    }

    private static void promise58DensitiesAtTheEdges() {
        FogBellMarket m = full();
        due("the first index", m.setFog(0, 9), 0);
        due("the last index", m.setFog(11, 0), 7);
        due("the last index again", m.setFog(11, 9), 0);
        due("they stand", m.fogIn(0) + " " + m.fogIn(4) + " " + m.fogIn(5) + " " + m.fogIn(54) + " " + m.fogIn(55), "9 9 1 8 9");
        FogBellMarket one = empty();
        due("the only index", one.setFog(0, 0), 5);
        due("in all minutes", one.fogIn(0) + " " + one.fogIn(99999), "0 0");
    }

    private static void promise58Refused() {
        refusedFor("density", ARGUMENT, Checks::busy, (m, v) -> m.setFog(0, v), -1, 10, LEAST, GREATEST);
        refusedFor("index", BOUNDS, Checks::busy, (m, v) -> m.setFog(v, 0), -1, 2, 11, 12, LEAST, GREATEST);
        refusedFor("index of twelve", BOUNDS, Checks::full, (m, v) -> m.setFog(v, 0), -1, 12, LEAST, GREATEST);
        refusedFor("index of one", BOUNDS, Checks::empty, (m, v) -> m.setFog(v, 0), -1, 1);
        refusedFor("neither", BOUNDS, Checks::busy, (m, v) -> m.setFog(v, v), -1, 10, LEAST, GREATEST);
    }

    private static void promise59PutBackAtTheEdges() {
        FogBellMarket m = full();
        m.setFog(0, 9);
        m.passMinutes(1);
        due("the first buyer", m.putBack(0), 0);
        due("the last buyer", m.putBack(5), 0);
        due("who put it back", buyer(m, 5), "at 50 coins 5 holds -1 owes 0 avoids 1 bought 0");
        due("who holds on", buyer(m, 4), "at 50 coins 5 holds 0 owes 5 avoids 0 bought 0");
        due("goods", goods(m, 0), "94 held 4 sold 0 lost 1 for 0");
        due("to a stock of 99", hundred().stockOf(0), 100);
        due("accounts of that", hundred().consistencyError(), 0);
        FogBellMarket sixth = market("market 1 60 0; fog 1;" + "stall 50 red soft 1 1;".repeat(5) + "stall 50 red rough 1 1;"
            + "buyer 50 9 rough 1; minutes 6;");
        due("to a stock of 0", sixth.stockOf(5), 0);
        due("to the sixth stall", sixth.putBack(0), 5);
        due("all are avoided", sixth.avoidedBy(0) + " " + sixth.stockOf(5) + " " + sixth.targetOf(0), "63 1 -1");
    }

    private static void promise59Refused() {
        refusedFor("buyer", BOUNDS, Checks::busy, FogBellMarket::putBack, -1, 2, 6, LEAST, GREATEST);
        refusedFor("buyer of six", BOUNDS, Checks::full, FogBellMarket::putBack, -1, 6);
        refusedFor("buyer of none", BOUNDS, Checks::empty, FogBellMarket::putBack, -1, 0);
        refusedFor("who holds nothing", STATE, Checks::busy, FogBellMarket::putBack, 1);
        refusedFor("who holds nothing, of six", STATE, Checks::full, FogBellMarket::putBack, 0, 5);
        refusedFor("who put it back", STATE, ChangeEdgeTests::hundred, FogBellMarket::putBack, 0);
    }

    private static void promise60MinutesAtTheEdges() {
        FogBellMarket m = market("market 1 60 50; fog 1; stall 50 red rough 1 99; buyer 50 99 rough 1;");
        due("sold in the first minute", m.passMinutes(1), 0);
        due("sold in the second minute", m.passMinutes(1), 1);
        due("sold in a hundred", m.passMinutes(100), 29);
        due("minutes", m.minute() + " " + m.undoCount(), "102 3");
        due("without stalls and buyers", empty().passMinutes(100), 0);
        FogBellMarket steps = market("market 1 60 50; fog 1; stall 50 red rough 1 99; buyer 50 99 rough 1;");
        for (int i = 0; i < 102; i++) {
            steps.passMinutes(1);
        }
        due("minutes one by one", state(steps), state(m));
    }

    private static void promise60Refused() {
        refusedFor("minutes", ARGUMENT, Checks::busy, FogBellMarket::passMinutes, 0, -1, 101, LEAST, GREATEST);
        refusedFor("minutes", ARGUMENT, Checks::empty, FogBellMarket::passMinutes, 0, 101);
    }

    // ---- undo

    private static void promise61EightChanges() {
        FogBellMarket m = full();
        for (int i = 1; i <= 8; i++) {
            m.setPrice(0, 100 + i);
        }
        due("eight changes", m.undoCount(), 8);
        m.setPrice(0, 109);
        due("nine changes", m.undoCount(), 8);
        for (int left = 7; left >= 0; left--) {
            due("undo", m.undo(), left);
            due("price then", m.priceOf(0), 101 + left);
        }
        refused("undo of the first change", STATE, m::undo);
        due("the first change stands", m.priceOf(0), 101);
        m.setPrice(0, 200);
        due("undo of a new change", m.undo(), 0);
        due("price then", m.priceOf(0), 101);
    }

    private static Map<String, MarketCall> changes() {
        Map<String, MarketCall> calls = new LinkedHashMap<>();
        calls.put("addStall", m -> m.addStall(1, 1, 1, 1, 1));
        calls.put("addBuyer", m -> m.addBuyer(1, 1, 1, 1));
        calls.put("setPrice", m -> m.setPrice(0, 999));
        calls.put("addStock", m -> m.addStock(0, 95));
        calls.put("setLantern", m -> m.setLantern(0, 3));
        calls.put("moveStall", m -> m.moveStall(0, 99));
        calls.put("setFog", m -> m.setFog(1, 9));
        calls.put("putBack", m -> m.putBack(0));
        calls.put("passMinutes", m -> m.passMinutes(100));
        calls.put("runScript", FogBellMarket::runScript);
        return calls;
    }

    private static void promise61EachKindOfChange() {
        for (Map.Entry<String, MarketCall> change : changes().entrySet()) {
            FogBellMarket m = busy();
            String before = state(m);
            change.getValue().of(m);
            due(change.getKey() + " alters something", state(m).equals(before), false);
            due(change.getKey() + " is a change", m.undoCount(), 4);
            due(change.getKey() + " is undone", m.undo() + " " + state(m), "3 " + before);
        }
    }

    private static void promise61ChangesThatAlterNothing() {
        Map<String, MarketCall> calls = new LinkedHashMap<>();
        calls.put("setPrice", m -> m.setPrice(0, 12));
        calls.put("addStock", m -> m.addStock(0, 0));
        calls.put("setLantern", m -> m.setLantern(0, 0));
        calls.put("moveStall", m -> m.moveStall(0, 30));
        calls.put("setFog", m -> m.setFog(1, 3));
        calls.put("runScript", m -> script(m, "price 0 12;"));
        for (Map.Entry<String, MarketCall> change : calls.entrySet()) {
            FogBellMarket m = busy();
            m.loadSetup();
            String before = state(m);
            change.getValue().of(m);
            due(change.getKey() + " alters nothing", state(m), before);
            due(change.getKey() + " is a change", m.undoCount(), 4);
            due(change.getKey() + " is undone", m.undo() + " " + state(m), "3 " + before);
        }
        FogBellMarket m = empty();
        due("an empty script", m.runScript() + " " + m.undoCount(), "0 1");
    }

    // The same calls after a change and its undo answer as without them: nothing of the change is left anywhere.
    private static void promise61UndoBringsTheWholeStateBack() {
        for (Map.Entry<String, MarketCall> change : changes().entrySet()) {
            if (change.getKey().equals("runScript")) {
                continue;
            }
            FogBellMarket undone = busy();
            change.getValue().of(undone);
            undone.undo();
            FogBellMarket plain = busy();
            for (FogBellMarket m : new FogBellMarket[] {undone, plain}) {
                m.addStall(30, 1, 1, 3, 2);
                m.addBuyer(30, 30, 1, 3);
                m.passMinutes(12);
            }
            due("the market after " + change.getKey() + " was undone", state(undone), state(plain));
            due("shares after " + change.getKey(), undone.spoiledShare() + " " + undone.meanPaid() + " " + undone.consistencyError(),
                plain.spoiledShare() + " " + plain.meanPaid() + " 0");
        }
    }

    private static void promise61UndoLeavesTheRest() {
        FogBellMarket m = busy();
        String output = output(m);
        m.undo();
        m.undo();
        due("the output", output(m), output);
        due("the error", error(m), "1 at 11");
        due("the input", inputLength(m), 9);
        due("the script in it", m.runScript() + " " + m.positionOf(0), "1 9");
        m.undo();
        due("the script undone", m.positionOf(0) + " " + error(m), "30 0 at -1");
        due("the saved states", m.restore(0) + " " + m.restore(1), "0 1");
    }

    private static void promise61Refused() {
        refusedAndNothingChanged("undo of nothing", STATE, FogBellMarket::new, FogBellMarket::undo);
        refusedAndNothingChanged("undo after a setup", STATE, Checks::empty, FogBellMarket::undo);
        refusedAndNothingChanged("undo after restore", STATE, () -> {
            FogBellMarket m = busy();
            m.restore(1);
            return m;
        }, FogBellMarket::undo);
        refusedAndNothingChanged("a fourth undo of three", STATE, () -> {
            FogBellMarket m = busy();
            m.undo();
            m.undo();
            m.undo();
            return m;
        }, FogBellMarket::undo);
    }

    // ---- saved states

    private static void promise62SaveAtTheEdges() {
        FogBellMarket m = empty();
        due("the first slot", m.save(0), 0);
        m.passMinutes(100);
        due("the last slot", m.save(1), 100);
        due("saving is no change", m.undoCount(), 1);
        m.passMinutes(100);
        due("the first slot anew", m.save(0), 200);
        due("its state is replaced", m.restore(0), 200);
        due("the other stands", m.restore(1), 100);
    }

    private static void promise62Refused() {
        refusedFor("slot", ARGUMENT, Checks::busy, FogBellMarket::save, -1, 2, LEAST, GREATEST);
        refusedFor("slot", ARGUMENT, Checks::empty, FogBellMarket::save, -1, 2, LEAST, GREATEST);
    }

    private static void promise63RestoreAtTheEdges() {
        FogBellMarket m = busy();
        due("the first slot", m.restore(0), 0);
        due("its market", state(m), "0 closed 0 ready 0 10 4 20 5 2 5 2 5 2 5 2 5 2 5 2"
            + "; at 30 lantern 0 texture 1 price 12 stock 5 5 held 0 sold 0 lost 0 for 0"
            + "; at 18 lantern 3 texture 2 price 7 stock 3 3 held 0 sold 0 lost 0 for 0"
            + "; at 30 coins 40 holds -1 owes 0 avoids 0 bought 0 1 6; at 18 coins 6 holds -1 owes 0 avoids 0 bought 0 2 4");
        due("no change to undo", m.undoCount(), 0);
        due("the last slot", m.restore(1), 1);
        due("its market", state(m), "1 open 1 waits 1 10 4 20 5 2 5 2 5 2 5 2 5 2 5 2"
            + "; at 30 lantern 0 texture 1 price 12 stock 4 4 held 1 sold 0 lost 0 for 0"
            + "; at 18 lantern 3 texture 2 price 7 stock 3 3 held 0 sold 0 lost 0 for 0"
            + "; at 30 coins 40 holds 0 owes 12 avoids 0 bought 0 1 6; at 18 coins 6 holds -1 owes 0 avoids 2 bought 0 2 4");
        String saved = state(m);
        m.passMinutes(100);
        m.addStall(1, 1, 1, 1, 1);
        due("it stays saved", m.restore(1) + " " + state(m), "1 " + saved);
        due("no change to undo again", m.undoCount(), 0);
    }

    private static void promise63RestoreLeavesTheRest() {
        FogBellMarket m = busy();
        String output = output(m);
        m.restore(0);
        due("the output", output(m), output);
        due("the error", error(m), "1 at 11");
        due("the input", inputLength(m), 9);
        due("the other saved state", m.restore(1), 1);
    }

    private static void promise63Refused() {
        refusedFor("slot", ARGUMENT, Checks::busy, FogBellMarket::restore, -1, 2, LEAST, GREATEST);
        // With nothing saved, the slot that is out of range is told first.
        refusedFor("slot of none", ARGUMENT, Checks::empty, FogBellMarket::restore, -1, 2, LEAST, GREATEST);
        refusedFor("nothing saved", NO_ELEMENT, Checks::empty, FogBellMarket::restore, 0, 1);
        refusedFor("nothing saved there", NO_ELEMENT, Checks::full, FogBellMarket::restore, 0);
        refusedFor("nothing saved since the setup", NO_ELEMENT, () -> {
            FogBellMarket m = busy();
            m.runScript();
            setup(m, "market 5 5 50; fog 5;");
            m.setFog(0, 1);
            return m;
        }, FogBellMarket::restore, 0, 1);
    }

    // ---- output

    private static void promise64TheEndsOfTheRope() {
        String hyphens = "-".repeat(98);
        due("nobody is there", rope(market("market 5 5 0; fog 5;")), "*-" + hyphens);
        due("the bell at the end", rope(market("market 5 5 99; fog 5;")), hyphens + "-*");
        due("stalls at the ends", rope(market("market 5 5 1; fog 5; stall 99 red rough 1 0; stall 0 red rough 1 0;")),
            "B*" + "-".repeat(97) + "A");
        due("buyers at the ends", rope(market("market 5 5 98; fog 5; buyer 0 0 rough 1; buyer 99 0 rough 1;")),
            "a" + "-".repeat(97) + "*b");
        due("the length", new FogBellMarket().writeRope(), 100);
    }

    private static void promise64WhatIsSeenFirst() {
        FogBellMarket m = market("market 5 5 10; fog 5; stall 11 red rough 1 0; stall 12 red rough 1 0; stall 13 red rough 1 0;"
            + "stall 13 red rough 1 0; stall 10 red rough 1 0; stall 14 red rough 1 0; buyer 10 0 rough 1; buyer 15 0 rough 1;"
            + "buyer 12 0 rough 1; buyer 15 0 rough 1; buyer 16 0 rough 1; buyer 17 0 rough 1;");
        due("the rope", rope(m).substring(9, 19), "-*AcCFbef-");
    }

    private static void promise64TheOutputIsReplaced() {
        FogBellMarket m = market("market 5 5 10; fog 5; stall 20 red rough 1 0;");
        m.writeRope();
        m.moveStall(0, 21);
        due("as it was written", m.outputByte(20) + " " + m.outputByte(21), "65 45");
        m.writeRope();
        due("as it is now", m.outputByte(20) + " " + m.outputByte(21), "45 65");
        due("the bytes", output(m).length(), 100);
        setup(m, "market 5 5 11; fog 5;");
        due("a setup leaves it", m.outputByte(10) + " " + m.outputByte(21), "42 65");
    }

    private static void promise65OutputByte() {
        for (int index : new int[] {-1, 0, 1, 99, 100, LEAST, GREATEST}) {
            due("byte " + index + " before the first rope", new FogBellMarket().outputByte(index), -1);
        }
        FogBellMarket m = market("market 5 5 0; fog 5; stall 99 red rough 1 0; buyer 98 0 rough 1;");
        m.writeRope();
        due("the first byte", m.outputByte(0), 42);
        due("the last but one", m.outputByte(98), 97);
        due("the last byte", m.outputByte(99), 65);
        for (int index : new int[] {-1, 100, LEAST, GREATEST}) {
            due("byte " + index, m.outputByte(index), -1);
        }
    }
}
