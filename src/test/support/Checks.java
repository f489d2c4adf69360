import java.util.NoSuchElementException;
import java.util.function.Supplier;

/** What tests share: the count of wrong answers, texts fed as bytes, and all that a market tells. */
abstract class Checks {
    static final Class<?> BOUNDS = IndexOutOfBoundsException.class;
    static final Class<?> ARGUMENT = IllegalArgumentException.class;
    static final Class<?> STATE = IllegalStateException.class;
    static final Class<?> NO_ELEMENT = NoSuchElementException.class;

    private static int wrong = 0;
    private static int checks = 0;

    interface MarketCall {
        int of(FogBellMarket m);
    }

    // ---- answers that are due

    static void due(String what, Object got, Object want) {
        checks++;
        if (!String.valueOf(got).equals(String.valueOf(want))) {
            wrong++;
            System.out.println(what + ": answered " + got + ", due is " + want);
        }
    }

    static void end() {
        System.out.println(checks + " checks, " + wrong + " wrong");
        if (wrong != 0) {
            System.exit(1);
        }
    }

    static void refused(String what, Class<?> want, Runnable call) {
        due(what + " throws", thrownBy(call), want.getName());
    }

    private static String thrownBy(Runnable call) {
        try {
            call.run();
        } catch (RuntimeException thrown) {
            return thrown.getClass().getName();
        }
        return "nothing";
    }

    /** The call throws, and afterwards a market tells just what one tells that was never asked. */
    static void refusedAndNothingChanged(String what, Class<?> want, Supplier<FogBellMarket> recipe, MarketCall call) {
        FogBellMarket asked = recipe.get();
        refused(what, want, () -> call.of(asked));
        due("what changed by " + what, story(() -> after(recipe, call)), story(recipe));
    }

    private static FogBellMarket after(Supplier<FogBellMarket> recipe, MarketCall call) {
        FogBellMarket m = recipe.get();
        thrownBy(() -> call.of(m));
        return m;
    }

    // ---- texts

    static int feed(FogBellMarket m, String text) {
        int length = inputLength(m);
        for (int i = 0; i < text.length(); i += 20) {
            length = m.feed(word(text, i), word(text, i + 4), word(text, i + 8), word(text, i + 12), word(text, i + 16));
        }
        return length;
    }

    private static int word(String text, int from) {
        int word = 0;
        for (int i = from; i < from + 4; i++) {
            word = word << 8 | (i < text.length() ? text.charAt(i) & 255 : 0);
        }
        return word;
    }

    static int inputLength(FogBellMarket m) {
        return m.feed(0, 0, 0, 0, 0);
    }

    static int script(FogBellMarket m, String text) {
        feed(m, text);
        return m.runScript();
    }

    static int setup(FogBellMarket m, String text) {
        feed(m, text);
        return m.loadSetup();
    }

    static FogBellMarket market(String setup) {
        FogBellMarket m = new FogBellMarket();
        if (setup(m, setup) == FogBellMarket.NONE) {
            throw new AssertionError("a setup of these tests is wrong: " + setup + " at " + m.errorPosition());
        }
        return m;
    }

    // ---- what a market tells

    static String bell(FogBellMarket m) {
        return (m.isOpen() ? "open " : "closed ") + m.openMinutes() + (m.isReady() ? " ready " : " waits ") + m.ringings();
    }

    static String stall(FogBellMarket m, int i) {
        return "at " + m.positionOf(i) + " lantern " + m.lanternOf(i) + " texture " + m.textureOf(i) + " price " + m.priceOf(i)
            + " stock " + m.stockOf(i);
    }

    static String goods(FogBellMarket m, int i) {
        return m.stockOf(i) + " held " + m.heldOf(i) + " sold " + m.soldOf(i) + " lost " + m.lostOf(i) + " for " + m.earnings(i);
    }

    static String buyer(FogBellMarket m, int i) {
        return "at " + m.placeOf(i) + " coins " + m.coinsOf(i) + " holds " + m.heldFrom(i) + " owes " + m.debtOf(i)
            + " avoids " + m.avoidedBy(i) + " bought " + m.boughtBy(i);
    }

    static String state(FogBellMarket m) {
        StringBuilder all = new StringBuilder();
        all.append(m.minute()).append(' ').append(bell(m)).append(' ').append(m.bellPosition()).append(' ')
            .append(m.threshold()).append(' ').append(m.duration());
        for (int i = 0; i < 12; i++) {
            all.append(' ').append(m.fogIn(5 * i));
        }
        for (int i = 0; i < m.stallCount(); i++) {
            all.append("; ").append(stall(m, i)).append(' ').append(goods(m, i));
        }
        for (int i = 0; i < m.buyerCount(); i++) {
            all.append("; ").append(buyer(m, i)).append(' ').append(m.wantedTexture(i)).append(' ').append(m.speedOf(i));
        }
        return all.toString();
    }

    static String rope(FogBellMarket m) {
        m.writeRope();
        return output(m);
    }

    static String output(FogBellMarket m) {
        StringBuilder bytes = new StringBuilder();
        int part = m.outputByte(0);
        while (part != FogBellMarket.NONE) {
            bytes.append((char) part);
            part = m.outputByte(bytes.length());
        }
        return bytes.toString();
    }

    // ---- all that a market tells, what it hides too: each part of a market of its own, since an object answers 512 calls

    static String story(Supplier<FogBellMarket> recipe) {
        return storyBesideTexts(recipe) + "\n error " + error(recipe.get()) + "\n input " + input(recipe.get());
    }

    /** The story without what a text that was read leaves behind in any case. */
    static String storyBesideTexts(Supplier<FogBellMarket> recipe) {
        return state(recipe.get()) + "\n output " + output(recipe.get()) + "\n undone " + undone(recipe.get())
            + "\n saved " + restored(recipe.get(), 0) + "\n saved " + restored(recipe.get(), 1);
    }

    static String error(FogBellMarket m) {
        return m.errorCode() + " at " + m.errorPosition();
    }

    private static String input(FogBellMarket m) {
        return inputLength(m) + ": " + m.runScript() + " " + error(m) + " " + state(m);
    }

    private static String undone(FogBellMarket m) {
        StringBuilder all = new StringBuilder();
        for (int left = m.undoCount(); left > 0; left--) {
            all.append("\n  ").append(left).append(' ').append(m.undo()).append(' ').append(state(m));
        }
        return all.append(' ').append(thrownBy(m::undo)).toString();
    }

    private static String restored(FogBellMarket m, int slot) {
        int[] answer = new int[1];
        String thrown = thrownBy(() -> answer[0] = m.restore(slot));
        return thrown + " " + answer[0] + " " + state(m);
    }

    // ---- markets in which much is going on

    /**
     * The market is open, buyer 0 holds a good of stall 0, buyer 1 avoids stall 1; two states are saved, three changes can be
     * undone, an error is reported, and both buffers hold something.
     */
    static FogBellMarket busy() {
        FogBellMarket m = market("market 4 20 10; fog 5 2; stall 30 red smooth 12 5; stall 18 white soft 7 3;"
            + "buyer 30 40 smooth 6; buyer 18 6 soft 4;");
        m.save(0);
        m.passMinutes(1);
        m.save(1);
        m.setPrice(1, 8);
        m.writeRope();
        script(m, "minutes 3; nonsense");
        feed(m, "move 0 9;");
        m.setFog(1, 3);
        return m;
    }

    /** As many stalls, buyers and densities as there can be, the stocks of 99 goods; one state is saved. */
    static FogBellMarket full() {
        FogBellMarket m = market("market 9 1 0; fog 0 1 2 3 4 5 6 7 8 9 8 7;" + "stall 50 red rough 5 99;".repeat(6)
            + "buyer 50 5 rough 1;".repeat(6));
        m.setLantern(5, 3);
        m.save(1);
        return m;
    }

    /** No stall and no buyer. */
    static FogBellMarket empty() {
        return market("market 5 5 50; fog 5;");
    }
}
