import java.util.NoSuchElementException;

/**
 * A market that opens when the fog bell rings. The document ../shared/DOC.md tells what every call
 * promises; ../shared/LANGUAGE.md tells which part of Java this file keeps to.
 */
public final class FogBellMarket {
    public static final int NONE = -1;

    private static final int MAX_STALLS = 6;
    private static final int MAX_BUYERS = 6;
    private static final int MAX_FOG = 12;
    private static final int MAX_DENSITY = 9;
    private static final int MAX_THRESHOLD = 9;
    private static final int MAX_DURATION = 60;
    private static final int MAX_POSITION = 99;
    private static final int ROPE_LENGTH = 100;
    private static final int MAX_LANTERN = 3;
    private static final int MAX_TEXTURE = 2;
    private static final int MAX_PRICE = 999;
    private static final int MAX_STOCK = 99;
    private static final int MAX_COINS = 9999;
    private static final int MAX_SPEED = 20;
    private static final int MAX_MINUTES = 100;
    private static final int MAX_FOG_MINUTE = 99999;
    private static final int MINUTES_PER_DENSITY = 5;
    private static final int FORESIGHT = 200;
    private static final int BEST_MINUTES = 60;
    private static final int MAX_BEST_PRICE = 60;
    private static final int MAX_CHANGES = 8;
    private static final int SLOTS = 2;
    private static final int MAX_INPUT = 700;
    private static final int MAX_COMMANDS = 40;
    private static final int MAX_ARGUMENTS = 5;

    private static final int TAKES_IT = 0;
    private static final int WRONG_TEXTURE = 1;
    private static final int SOLD_OUT = 2;
    private static final int TOO_DEAR = 3;

    private static final String FIRST_SETUP = "market 4 20 10; fog 2 5 7 3 8; stall 30 red smooth 12 5; stall 18 white soft 7 3; stall 55 blue smooth 9 2; buyer 25 40 smooth 6; buyer 0 6 soft 4; buyer 60 100 smooth 9; minutes 7;";

    private final Market market = new Market();
    private final Market draft = new Market();
    private final Market probe = new Market();
    private final Reader reader = new Reader();
    // A ring: the state before the latest change stands just below pastNext.
    private final Market[] past = new Market[MAX_CHANGES];
    private int pastNext;
    private int pastCount;
    private final Market[] saved = new Market[SLOTS];
    private final boolean[] hasSaved = new boolean[SLOTS];
    private final byte[] output = new byte[ROPE_LENGTH];
    private int outputLength;

    public FogBellMarket() {
        for (int i = 0; i < past.length; i++) {
            past[i] = new Market();
        }
        for (int i = 0; i < saved.length; i++) {
            saved[i] = new Market();
        }
        reader.appendText(FIRST_SETUP);
        replaceMarket();
    }

    // ---- texts

    public int feed(int a, int b, int c, int d, int e) {
        int more = bytesIn(a) + bytesIn(b) + bytesIn(c) + bytesIn(d) + bytesIn(e);
        if (reader.length + more > MAX_INPUT) {
            return NONE;
        }
        reader.appendWord(a);
        reader.appendWord(b);
        reader.appendWord(c);
        reader.appendWord(d);
        reader.appendWord(e);
        return reader.length;
    }

    public int loadSetup() {
        return replaceMarket() ? market.stallCount : NONE;
    }

    public int runScript() {
        draft.copyFrom(market);
        reader.begin();
        int commands = readCommands();
        reader.clear();
        if (commands == NONE) {
            return NONE;
        }
        remember();
        market.copyFrom(draft);
        return commands;
    }

    public int errorCode() {
        return reader.errorCode;
    }

    public int errorPosition() {
        return reader.errorPosition;
    }

    private static int bytesIn(int word) {
        int count = 0;
        for (int shift = 24; shift >= 0; shift -= 8) {
            if ((word >>> shift & 255) != 0) {
                count++;
            }
        }
        return count;
    }

    private boolean replaceMarket() {
        reader.begin();
        boolean good = reader.readHead(draft) && readCommands() != NONE;
        reader.clear();
        if (!good) {
            return false;
        }
        market.copyFrom(draft);
        forgetChanges();
        for (int i = 0; i < hasSaved.length; i++) {
            hasSaved[i] = false;
        }
        return true;
    }

    // The commands change the draft alone, so that a text with an error leaves the market as it was.
    private int readCommands() {
        for (int count = 0; count <= MAX_COMMANDS; count++) {
            if (!reader.readCommand(draft, count)) {
                return reader.errorCode == 0 ? count : NONE;
            }
            draft.perform(reader);
        }
        return NONE;
    }

    // ---- fog and bell

    public int minute() {
        return market.minute;
    }

    public int bellPosition() {
        return market.bell;
    }

    public int threshold() {
        return market.bellThreshold;
    }

    public int duration() {
        return market.bellDuration;
    }

    public int undoCount() {
        return pastCount;
    }

    public int fogIn(int minute) throws IllegalArgumentException {
        checkRange(minute, 0, MAX_FOG_MINUTE);
        return market.densityIn(minute);
    }

    public boolean isOpen() {
        return market.open;
    }

    public boolean isReady() {
        return market.ready;
    }

    public int openMinutes() {
        return market.minutesOpen;
    }

    public int ringings() {
        return market.rings;
    }

    public int minutesToBell() {
        probe.copyFrom(market);
        for (int passed = 0; passed <= FORESIGHT; passed++) {
            boolean wasOpen = probe.open;
            probe.moveBell(probe.densityNow());
            if (!wasOpen && probe.open) {
                return passed;
            }
            probe.countMinute();
        }
        return NONE;
    }

    public int minutesToEnd() {
        if (!market.open) {
            return NONE;
        }
        probe.copyFrom(market);
        for (int passed = 0; passed <= FORESIGHT; passed++) {
            probe.moveBell(probe.densityNow());
            if (!probe.open) {
                return passed;
            }
            probe.countMinute();
        }
        return NONE;
    }

    // ---- stalls

    public int stallCount() {
        return market.stallCount;
    }

    public int positionOf(int stall) throws IndexOutOfBoundsException {
        return stallAt(stall).position;
    }

    public int lanternOf(int stall) throws IndexOutOfBoundsException {
        return stallAt(stall).lantern;
    }

    public int textureOf(int stall) throws IndexOutOfBoundsException {
        return stallAt(stall).texture;
    }

    public int priceOf(int stall) throws IndexOutOfBoundsException {
        return stallAt(stall).price;
    }

    public int stockOf(int stall) throws IndexOutOfBoundsException {
        return stallAt(stall).stock;
    }

    public int heldOf(int stall) throws IndexOutOfBoundsException {
        checkStall(stall);
        return market.countHeld(stall);
    }

    public int soldOf(int stall) throws IndexOutOfBoundsException {
        return stallAt(stall).sold;
    }

    public int lostOf(int stall) throws IndexOutOfBoundsException {
        return stallAt(stall).lost;
    }

    public int earnings(int stall) throws IndexOutOfBoundsException {
        return stallAt(stall).earned;
    }

    public int reach(int lantern, int density) throws IllegalArgumentException {
        checkRange(lantern, 0, MAX_LANTERN);
        checkRange(density, 0, MAX_DENSITY);
        return Stall.paces(lantern, density);
    }

    public int seenFrom(int position) throws IllegalArgumentException {
        checkRange(position, 0, MAX_POSITION);
        int density = market.densityNow();
        int seen = 0;
        for (int i = 0; i < market.stallCount; i++) {
            if (market.stalls[i].isSeenFrom(position, density)) {
                seen |= 1 << i;
            }
        }
        return seen;
    }

    private void checkStall(int stall) {
        if (stall < 0 || stall >= market.stallCount) {
            throw new IndexOutOfBoundsException("no such stall");
        }
    }

    private Stall stallAt(int stall) {
        checkStall(stall);
        return market.stalls[stall];
    }

    private static void checkRange(int value, int lowest, int highest) {
        if (value < lowest || value > highest) {
            throw new IllegalArgumentException("out of range");
        }
    }

    // ---- buyers

    public int buyerCount() {
        return market.buyerCount;
    }

    public int placeOf(int buyer) throws IndexOutOfBoundsException {
        return buyerAt(buyer).position;
    }

    public int coinsOf(int buyer) throws IndexOutOfBoundsException {
        return buyerAt(buyer).coins;
    }

    public int wantedTexture(int buyer) throws IndexOutOfBoundsException {
        return buyerAt(buyer).wanted;
    }

    public int speedOf(int buyer) throws IndexOutOfBoundsException {
        return buyerAt(buyer).speed;
    }

    public int heldFrom(int buyer) throws IndexOutOfBoundsException {
        return buyerAt(buyer).heldStall;
    }

    public int debtOf(int buyer) throws IndexOutOfBoundsException {
        return buyerAt(buyer).debt;
    }

    public int avoidedBy(int buyer) throws IndexOutOfBoundsException {
        return buyerAt(buyer).avoided;
    }

    public int boughtBy(int buyer) throws IndexOutOfBoundsException {
        return buyerAt(buyer).bought;
    }

    public int targetOf(int buyer) throws IndexOutOfBoundsException {
        Buyer looker = buyerAt(buyer);
        return looker.holds() ? NONE : market.findTarget(looker, market.densityNow());
    }

    public int touch(int buyer, int stall) throws IndexOutOfBoundsException {
        return buyerAt(buyer).feel(stallAt(stall));
    }

    private void checkBuyer(int buyer) {
        if (buyer < 0 || buyer >= market.buyerCount) {
            throw new IndexOutOfBoundsException("no such buyer");
        }
    }

    private Buyer buyerAt(int buyer) {
        checkBuyer(buyer);
        return market.buyers[buyer];
    }

    // ---- accounts

    public int coinsInAll() {
        int coins = market.earnedInAll();
        for (int i = 0; i < market.buyerCount; i++) {
            coins += market.buyers[i].coins;
        }
        return coins;
    }

    public int consistencyError() {
        int error = 0;
        for (int i = 0; i < market.stallCount; i++) {
            Stall stall = market.stalls[i];
            int found = stall.stock + market.countHeld(i) + stall.sold + stall.lost;
            error += Math.abs(stall.came - found);
        }
        return error;
    }

    public double meanPaid() {
        int sold = market.soldInAll();
        if (sold == 0) {
            return 0.0;
        }
        return (double) market.earnedInAll() / (double) sold;
    }

    public float spoiledShare() {
        int came = 0;
        int lost = 0;
        for (int i = 0; i < market.stallCount; i++) {
            came += market.stalls[i].came;
            lost += market.stalls[i].lost;
        }
        if (came == 0) {
            return 0.0f;
        }
        return (float) lost / (float) came;
    }

    // ---- predictions; nothing changes

    public int minutesToPay(int buyer) throws IndexOutOfBoundsException {
        int boughtNow = buyerAt(buyer).bought;
        probe.copyFrom(market);
        for (int passed = 1; passed <= FORESIGHT; passed++) {
            probe.pass(1);
            if (probe.buyers[buyer].bought > boughtNow) {
                return passed;
            }
        }
        return NONE;
    }

    public int earningsAfter(int stall, int minutes) throws IndexOutOfBoundsException, IllegalArgumentException {
        checkStall(stall);
        checkRange(minutes, 0, FORESIGHT);
        probe.copyFrom(market);
        probe.pass(minutes);
        return probe.stalls[stall].earned;
    }

    public int bestPrice(int stall) throws IndexOutOfBoundsException {
        checkStall(stall);
        int best = NONE;
        int mostEarned = NONE;
        for (int price = 1; price <= MAX_BEST_PRICE; price++) {
            probe.copyFrom(market);
            probe.stalls[stall].price = price;
            probe.pass(BEST_MINUTES);
            if (probe.stalls[stall].earned > mostEarned) {
                mostEarned = probe.stalls[stall].earned;
                best = price;
            }
        }
        return best;
    }

    public int bestLantern(int stall) throws IndexOutOfBoundsException {
        checkStall(stall);
        int best = NONE;
        int mostEarned = NONE;
        for (int lantern = 0; lantern <= MAX_LANTERN; lantern++) {
            probe.copyFrom(market);
            probe.stalls[stall].lantern = lantern;
            probe.pass(BEST_MINUTES);
            if (probe.stalls[stall].earned > mostEarned) {
                mostEarned = probe.stalls[stall].earned;
                best = lantern;
            }
        }
        return best;
    }

    public int nextPayer() {
        probe.copyFrom(market);
        for (int passed = 1; passed <= FORESIGHT; passed++) {
            probe.pass(1);
            for (int i = 0; i < market.buyerCount; i++) {
                if (probe.buyers[i].bought > market.buyers[i].bought) {
                    return i;
                }
            }
        }
        return NONE;
    }

    public int bestBellPosition() {
        int best = NONE;
        int mostEarned = NONE;
        for (int position = 0; position <= MAX_POSITION; position++) {
            probe.copyFrom(market);
            probe.bell = position;
            probe.pass(BEST_MINUTES);
            int earned = probe.earnedInAll();
            if (earned > mostEarned) {
                mostEarned = earned;
                best = position;
            }
        }
        return best;
    }

    // ---- changes

    public int addStall(int position, int lantern, int texture, int price, int stock) throws IllegalArgumentException, IllegalStateException {
        checkRange(position, 0, MAX_POSITION);
        checkRange(lantern, 0, MAX_LANTERN);
        checkRange(texture, 0, MAX_TEXTURE);
        checkRange(price, 1, MAX_PRICE);
        checkRange(stock, 0, MAX_STOCK);
        if (market.stallCount >= MAX_STALLS) {
            throw new IllegalStateException("no room for a stall");
        }
        remember();
        return market.placeStall(position, lantern, texture, price, stock);
    }

    public int addBuyer(int position, int coins, int texture, int speed) throws IllegalArgumentException, IllegalStateException {
        checkRange(position, 0, MAX_POSITION);
        checkRange(coins, 0, MAX_COINS);
        checkRange(texture, 0, MAX_TEXTURE);
        checkRange(speed, 1, MAX_SPEED);
        if (market.buyerCount >= MAX_BUYERS) {
            throw new IllegalStateException("no room for a buyer");
        }
        remember();
        return market.placeBuyer(position, coins, texture, speed);
    }

    public int setPrice(int stall, int price) throws IndexOutOfBoundsException, IllegalArgumentException {
        Stall changed = stallAt(stall);
        checkRange(price, 1, MAX_PRICE);
        remember();
        int previous = changed.price;
        changed.price = price;
        return previous;
    }

    public int addStock(int stall, int goods) throws IndexOutOfBoundsException, IllegalArgumentException, IllegalStateException {
        Stall changed = stallAt(stall);
        checkRange(goods, 0, MAX_STOCK);
        if (!changed.hasRoomFor(goods)) {
            throw new IllegalStateException("the stock would be too great");
        }
        remember();
        changed.receive(goods);
        return changed.stock;
    }

    public int setLantern(int stall, int lantern) throws IndexOutOfBoundsException, IllegalArgumentException {
        Stall changed = stallAt(stall);
        checkRange(lantern, 0, MAX_LANTERN);
        remember();
        int previous = changed.lantern;
        changed.lantern = lantern;
        return previous;
    }

    public int moveStall(int stall, int position) throws IndexOutOfBoundsException, IllegalArgumentException {
        Stall changed = stallAt(stall);
        checkRange(position, 0, MAX_POSITION);
        remember();
        int previous = changed.position;
        changed.position = position;
        return previous;
    }

    public int setFog(int index, int density) throws IndexOutOfBoundsException, IllegalArgumentException {
        if (index < 0 || index >= market.fogLength) {
            throw new IndexOutOfBoundsException("no such index in the fog pattern");
        }
        checkRange(density, 0, MAX_DENSITY);
        remember();
        int previous = market.fog[index];
        market.fog[index] = density;
        return previous;
    }

    public int putBack(int buyer) throws IndexOutOfBoundsException, IllegalStateException {
        Buyer holder = buyerAt(buyer);
        if (!holder.holds()) {
            throw new IllegalStateException("the buyer holds nothing");
        }
        remember();
        int stall = holder.heldStall;
        market.returnAndAvoid(holder);
        return stall;
    }

    public int passMinutes(int minutes) throws IllegalArgumentException {
        checkRange(minutes, 1, MAX_MINUTES);
        remember();
        int soldBefore = market.soldInAll();
        market.pass(minutes);
        return market.soldInAll() - soldBefore;
    }

    private void remember() {
        past[pastNext].copyFrom(market);
        pastNext = pastNext + 1 < past.length ? pastNext + 1 : 0;
        pastCount = Math.min(pastCount + 1, MAX_CHANGES);
    }

    private void forgetChanges() {
        pastNext = 0;
        pastCount = 0;
    }

    // ---- undo, saved states, output

    public int undo() throws IllegalStateException {
        if (pastCount == 0) {
            throw new IllegalStateException("no change to undo");
        }
        pastNext = pastNext > 0 ? pastNext - 1 : past.length - 1;
        pastCount--;
        market.copyFrom(past[pastNext]);
        return pastCount;
    }

    public int save(int slot) throws IllegalArgumentException {
        checkRange(slot, 0, SLOTS - 1);
        saved[slot].copyFrom(market);
        hasSaved[slot] = true;
        return market.minute;
    }

    public int restore(int slot) throws IllegalArgumentException, NoSuchElementException {
        checkRange(slot, 0, SLOTS - 1);
        if (!hasSaved[slot]) {
            throw new NoSuchElementException("no state is saved there");
        }
        market.copyFrom(saved[slot]);
        forgetChanges();
        return market.minute;
    }

    // What is drawn later covers what was drawn before: hence the descending indices and the bell last.
    public int writeRope() {
        for (int i = 0; i < output.length; i++) {
            output[i] = (byte) '-';
        }
        for (int i = market.stallCount - 1; i >= 0; i--) {
            drawOnRope(market.stalls[i].position, 'A' + i);
        }
        for (int i = market.buyerCount - 1; i >= 0; i--) {
            drawOnRope(market.buyers[i].position, 'a' + i);
        }
        drawOnRope(market.bell, '*');
        outputLength = output.length;
        return outputLength;
    }

    public int outputByte(int index) {
        if (index < 0 || index >= outputLength) {
            return NONE;
        }
        return output[index];
    }

    private void drawOnRope(int position, int sign) {
        if (position >= 0 && position < output.length) {
            output[position] = (byte) sign;
        }
    }

    private static final class Stall {
        int position;
        int lantern;
        int texture;
        int price;
        int stock;
        int sold;
        int lost;
        int earned;
        // The goods that came to the stock, at first and later; goods that buyers bring back do not count again.
        int came;

        void reset(int newPosition, int newLantern, int newTexture, int newPrice) {
            position = newPosition;
            lantern = newLantern;
            texture = newTexture;
            price = newPrice;
            stock = 0;
            sold = 0;
            lost = 0;
            earned = 0;
            came = 0;
        }

        void copyFrom(Stall other) {
            position = other.position;
            lantern = other.lantern;
            texture = other.texture;
            price = other.price;
            stock = other.stock;
            sold = other.sold;
            lost = other.lost;
            earned = other.earned;
            came = other.came;
        }

        boolean hasRoomFor(int goods) {
            return stock + goods <= MAX_STOCK;
        }

        void receive(int goods) {
            stock += goods;
            came += goods;
        }

        static int paces(int lantern, int density) {
            switch (lantern) {
                case 0:
                    return 30 - 2 * density;
                case 1:
                    return 24 - density;
                case 2:
                    return 45 - 5 * density;
                default:
                    return 12;
            }
        }

        boolean isSeenFrom(int place, int density) {
            return Math.abs(position - place) <= paces(lantern, density);
        }

        private int guardedDensity() {
            switch (lantern) {
                case 0:
                    return 7;
                case 1:
                    return 5;
                case 2:
                    return 6;
                default:
                    return 9;
            }
        }

        void letMistIn(int density) {
            if (stock > 0 && density > guardedDensity()) {
                stock--;
                lost++;
            }
        }
    }

    private static final class Buyer {
        int position;
        int coins;
        int wanted;
        int speed;
        int heldStall = NONE;
        int debt;
        int avoided;
        int bought;

        void reset(int newPosition, int newCoins, int newWanted, int newSpeed) {
            position = newPosition;
            coins = newCoins;
            wanted = newWanted;
            speed = newSpeed;
            heldStall = NONE;
            debt = 0;
            avoided = 0;
            bought = 0;
        }

        void copyFrom(Buyer other) {
            position = other.position;
            coins = other.coins;
            wanted = other.wanted;
            speed = other.speed;
            heldStall = other.heldStall;
            debt = other.debt;
            avoided = other.avoided;
            bought = other.bought;
        }

        boolean holds() {
            return heldStall != NONE;
        }

        boolean avoids(int stall) {
            return (avoided >> stall & 1) != 0;
        }

        void avoid(int stall) {
            avoided |= 1 << stall;
        }

        void walkTo(int goal) {
            if (goal - position > speed) {
                position += speed;
            } else if (position - goal > speed) {
                position -= speed;
            } else {
                position = goal;
            }
        }

        int feel(Stall stall) {
            if (stall.texture != wanted) {
                return WRONG_TEXTURE;
            }
            if (stall.stock == 0) {
                return SOLD_OUT;
            }
            return stall.price > coins ? TOO_DEAR : TAKES_IT;
        }

        void take(Stall stall, int index) {
            stall.stock--;
            heldStall = index;
            debt = stall.price;
        }

        void payTo(Stall stall) {
            coins -= debt;
            stall.earned += debt;
            stall.sold++;
            bought++;
            letGo();
        }

        void letGo() {
            heldStall = NONE;
            debt = 0;
        }
    }

    /** The whole state that undo() and restore() bring back; its rows are made once and used again. */
    private static final class Market {
        final Stall[] stalls = new Stall[MAX_STALLS];
        int stallCount;
        final Buyer[] buyers = new Buyer[MAX_BUYERS];
        int buyerCount;
        final int[] fog = new int[MAX_FOG];
        int fogLength;
        int minute;
        int bell;
        int bellThreshold;
        int bellDuration;
        boolean open;
        boolean ready;
        int minutesOpen;
        int rings;

        Market() {
            for (int i = 0; i < stalls.length; i++) {
                stalls[i] = new Stall();
            }
            for (int i = 0; i < buyers.length; i++) {
                buyers[i] = new Buyer();
            }
        }

        void reset(int newThreshold, int newDuration, int newBell) {
            stallCount = 0;
            buyerCount = 0;
            fogLength = 0;
            minute = 0;
            bell = newBell;
            bellThreshold = newThreshold;
            bellDuration = newDuration;
            open = false;
            ready = true;
            minutesOpen = 0;
            rings = 0;
        }

        void copyFrom(Market other) {
            stallCount = other.stallCount;
            for (int i = 0; i < stallCount; i++) {
                stalls[i].copyFrom(other.stalls[i]);
            }
            buyerCount = other.buyerCount;
            for (int i = 0; i < buyerCount; i++) {
                buyers[i].copyFrom(other.buyers[i]);
            }
            fogLength = other.fogLength;
            for (int i = 0; i < fogLength; i++) {
                fog[i] = other.fog[i];
            }
            minute = other.minute;
            bell = other.bell;
            bellThreshold = other.bellThreshold;
            bellDuration = other.bellDuration;
            open = other.open;
            ready = other.ready;
            minutesOpen = other.minutesOpen;
            rings = other.rings;
        }

        boolean isStall(int index) {
            return index >= 0 && index < stallCount;
        }

        boolean isBuyer(int index) {
            return index >= 0 && index < buyerCount;
        }

        int densityIn(int anyMinute) {
            if (anyMinute < 0 || fogLength < 1 || fogLength > fog.length) {
                return 0;
            }
            return fog[anyMinute / MINUTES_PER_DENSITY % fogLength];
        }

        int densityNow() {
            return densityIn(minute);
        }

        int earnedInAll() {
            int earned = 0;
            for (int i = 0; i < stallCount; i++) {
                earned += stalls[i].earned;
            }
            return earned;
        }

        int soldInAll() {
            int sold = 0;
            for (int i = 0; i < stallCount; i++) {
                sold += stalls[i].sold;
            }
            return sold;
        }

        int countHeld(int stall) {
            int held = 0;
            for (int i = 0; i < buyerCount; i++) {
                if (buyers[i].heldStall == stall) {
                    held++;
                }
            }
            return held;
        }

        int findTarget(Buyer buyer, int density) {
            int target = NONE;
            int shortest = ROPE_LENGTH;
            for (int i = 0; i < stallCount; i++) {
                int distance = Math.abs(stalls[i].position - buyer.position);
                boolean seen = distance <= Stall.paces(stalls[i].lantern, density);
                if (seen && distance < shortest && !buyer.avoids(i)) {
                    target = i;
                    shortest = distance;
                }
            }
            return target;
        }

        void addDensity(int density) {
            if (fogLength < fog.length) {
                fog[fogLength] = density;
                fogLength++;
            }
        }

        int placeStall(int position, int lantern, int texture, int price, int stock) {
            if (stallCount >= stalls.length) {
                return NONE;
            }
            int index = stallCount;
            stalls[index].reset(position, lantern, texture, price);
            stalls[index].receive(stock);
            stallCount++;
            return index;
        }

        int placeBuyer(int position, int coins, int wanted, int speed) {
            if (buyerCount >= buyers.length) {
                return NONE;
            }
            int index = buyerCount;
            buyers[index].reset(position, coins, wanted, speed);
            buyerCount++;
            return index;
        }

        void returnGood(Buyer holder) {
            if (isStall(holder.heldStall)) {
                stalls[holder.heldStall].stock++;
            }
            holder.letGo();
        }

        void returnAndAvoid(Buyer holder) {
            int stall = holder.heldStall;
            returnGood(holder);
            holder.avoid(stall);
        }

        void pass(int minutes) {
            for (int passed = 0; passed < minutes; passed++) {
                int density = densityNow();
                moveBell(density);
                if (open) {
                    for (int i = 0; i < buyerCount; i++) {
                        letAct(buyers[i], density);
                    }
                    for (int i = 0; i < stallCount; i++) {
                        stalls[i].letMistIn(density);
                    }
                }
                countMinute();
            }
        }

        void moveBell(int density) {
            boolean thin = density < bellThreshold;
            if (thin) {
                ready = true;
            }
            if (open && (thin || minutesOpen >= bellDuration)) {
                open = false;
                minutesOpen = 0;
                for (int i = 0; i < buyerCount; i++) {
                    returnGood(buyers[i]);
                    buyers[i].avoided = 0;
                }
            } else if (!open && ready && !thin) {
                open = true;
                minutesOpen = 0;
                ready = false;
                rings++;
            }
        }

        void countMinute() {
            if (open) {
                minutesOpen++;
            }
            minute++;
        }

        private void letAct(Buyer buyer, int density) {
            if (isStall(buyer.heldStall)) {
                buyer.walkTo(bell);
                if (buyer.position == bell) {
                    buyer.payTo(stalls[buyer.heldStall]);
                }
                return;
            }
            int target = findTarget(buyer, density);
            if (!isStall(target)) {
                return;
            }
            Stall stall = stalls[target];
            buyer.walkTo(stall.position);
            if (buyer.position != stall.position) {
                return;
            }
            if (buyer.feel(stall) == TAKES_IT) {
                buyer.take(stall, target);
            } else {
                buyer.avoid(target);
            }
        }

        /** Carries out the command that the reader has just read and found good for this market. */
        void perform(Reader command) {
            if (command.verb == null) {
                return;
            }
            int first = command.argument(0);
            int second = command.argument(1);
            switch (command.verb) {
                case STALL:
                    placeStall(first, second, command.argument(2), command.argument(3), command.argument(4));
                    break;
                case BUYER:
                    placeBuyer(first, second, command.argument(2), command.argument(3));
                    break;
                case FOG:
                    if (first >= 0 && first < fogLength) {
                        fog[first] = second;
                    }
                    break;
                case BACK:
                    if (isBuyer(first)) {
                        returnAndAvoid(buyers[first]);
                    }
                    break;
                case MINUTES:
                    pass(first);
                    break;
                default:
                    if (isStall(first)) {
                        changeStall(command.verb, stalls[first], second);
                    }
            }
        }

        private static void changeStall(Verb verb, Stall stall, int value) {
            switch (verb) {
                case PRICE:
                    stall.price = value;
                    break;
                case STOCK:
                    stall.receive(value);
                    break;
                case LANTERN:
                    stall.lantern = value;
                    break;
                default:
                    stall.position = value;
            }
        }
    }

    /**
     * The commands, each with the kinds of its arguments, a letter for each: p position, l lantern,
     * t texture, c price, g goods, m coins, v speed, s stall, b buyer, i index in the fog pattern,
     * d density, n number of minutes.
     */
    private enum Verb {
        STALL("stall", "pltcg"),
        BUYER("buyer", "pmtv"),
        PRICE("price", "sc"),
        STOCK("stock", "sg"),
        LANTERN("lantern", "sl"),
        MOVE("move", "sp"),
        FOG("fog", "id"),
        BACK("back", "b"),
        MINUTES("minutes", "n");

        final String word;
        final String kinds;

        Verb(String word, String kinds) {
            this.word = word;
            this.kinds = kinds;
        }
    }

    /** The input buffer, and the reading of a text in it, token by token. */
    private static final class Reader {
        private static final int SYNTAX = 1;
        private static final int RANGE = 2;
        private static final int STATE = 3;
        private static final int LIMIT = 4;

        private static final int END = 0;
        private static final int WORD = 1;
        private static final int NUMBER = 2;
        private static final int SEMICOLON = 3;
        private static final int OTHER = 4;

        // Numbers have any length; beyond this they only need to stay out of every range.
        private static final int HUGE = 100000;

        private static final Verb[] VERBS = Verb.values();

        private final byte[] bytes = new byte[MAX_INPUT];
        int length;
        int errorCode;
        int errorPosition = NONE;
        Verb verb;
        private final int[] arguments = new int[MAX_ARGUMENTS];
        private int next;
        private int token;
        private int tokenStart;
        private int number;

        void appendText(String text) {
            for (int i = 0; i < text.length(); i++) {
                appendByte(text.charAt(i));
            }
        }

        void appendWord(int word) {
            for (int shift = 24; shift >= 0; shift -= 8) {
                int part = word >>> shift & 255;
                if (part != 0) {
                    appendByte(part);
                }
            }
        }

        private void appendByte(int part) {
            if (length < bytes.length) {
                bytes[length] = (byte) part;
                length++;
            }
        }

        void clear() {
            length = 0;
        }

        void begin() {
            next = 0;
            errorCode = 0;
            errorPosition = NONE;
        }

        int argument(int index) {
            return index >= 0 && index < arguments.length ? arguments[index] : 0;
        }

        boolean readHead(Market market) {
            if (!readWord("market") || !readNumber(1, MAX_THRESHOLD)) {
                return false;
            }
            int threshold = number;
            if (!readNumber(1, MAX_DURATION)) {
                return false;
            }
            int duration = number;
            if (!readNumber(0, MAX_POSITION)) {
                return false;
            }
            market.reset(threshold, duration, number);
            return readSemicolon() && readWord("fog") && readFog(market);
        }

        private boolean readFog(Market market) {
            for (int count = 0; count <= MAX_FOG; count++) {
                readToken();
                if (token == SEMICOLON && count > 0) {
                    return true;
                }
                if (token != NUMBER) {
                    return fail(SYNTAX);
                }
                if (number > MAX_DENSITY) {
                    return fail(RANGE);
                }
                if (count == MAX_FOG) {
                    return fail(LIMIT);
                }
                market.addDensity(number);
            }
            return false;
        }

        /** Tells whether a command has been read; without one, the text is at its end or has an error. */
        boolean readCommand(Market market, int commandsBefore) {
            readToken();
            if (token == END) {
                return false;
            }
            verb = verbRead();
            if (verb == null) {
                return fail(SYNTAX);
            }
            if (commandsBefore >= MAX_COMMANDS || hasNoRoom(market)) {
                return fail(LIMIT);
            }
            for (int i = 0; i < verb.kinds.length(); i++) {
                if (!readArgument(market, verb.kinds.charAt(i), i)) {
                    return false;
                }
            }
            return readSemicolon();
        }

        private Verb verbRead() {
            for (int i = 0; i < VERBS.length; i++) {
                if (isWord(VERBS[i].word)) {
                    return VERBS[i];
                }
            }
            return null;
        }

        private boolean hasNoRoom(Market market) {
            return verb == Verb.STALL && market.stallCount >= MAX_STALLS
                || verb == Verb.BUYER && market.buyerCount >= MAX_BUYERS;
        }

        private boolean readArgument(Market market, char kind, int index) {
            readToken();
            if (kind == 'l' || kind == 't') {
                int value = kind == 'l' ? lanternRead() : textureRead();
                keepArgument(index, value);
                return value != NONE || fail(SYNTAX);
            }
            if (!isNumberFrom(lowest(kind), highest(kind, market))) {
                return false;
            }
            keepArgument(index, number);
            return !isRefusedBy(market, index) || fail(STATE);
        }

        private void keepArgument(int index, int value) {
            if (index >= 0 && index < arguments.length) {
                arguments[index] = value;
            }
        }

        private static int lowest(char kind) {
            return kind == 'c' || kind == 'v' || kind == 'n' ? 1 : 0;
        }

        private static int highest(char kind, Market market) {
            switch (kind) {
                case 'p':
                    return MAX_POSITION;
                case 'c':
                    return MAX_PRICE;
                case 'g':
                    return MAX_STOCK;
                case 'm':
                    return MAX_COINS;
                case 'v':
                    return MAX_SPEED;
                case 's':
                    return market.stallCount - 1;
                case 'b':
                    return market.buyerCount - 1;
                case 'i':
                    return market.fogLength - 1;
                case 'd':
                    return MAX_DENSITY;
                default:
                    return MAX_MINUTES;
            }
        }

        private boolean isRefusedBy(Market market, int index) {
            if (verb == Verb.STOCK && index == 1) {
                int stall = argument(0);
                return market.isStall(stall) && !market.stalls[stall].hasRoomFor(number);
            }
            if (verb == Verb.BACK) {
                return market.isBuyer(number) && !market.buyers[number].holds();
            }
            return false;
        }

        private int lanternRead() {
            if (isWord("red")) {
                return 0;
            }
            if (isWord("green")) {
                return 1;
            }
            if (isWord("blue")) {
                return 2;
            }
            return isWord("white") ? 3 : NONE;
        }

        private int textureRead() {
            if (isWord("rough")) {
                return 0;
            }
            if (isWord("smooth")) {
                return 1;
            }
            return isWord("soft") ? 2 : NONE;
        }

        private boolean readWord(String word) {
            readToken();
            return isWord(word) || fail(SYNTAX);
        }

        private boolean readNumber(int lowest, int highest) {
            readToken();
            return isNumberFrom(lowest, highest);
        }

        private boolean isNumberFrom(int lowest, int highest) {
            if (token != NUMBER) {
                return fail(SYNTAX);
            }
            return number >= lowest && number <= highest || fail(RANGE);
        }

        private boolean readSemicolon() {
            readToken();
            return token == SEMICOLON || fail(SYNTAX);
        }

        // Answers false, so that who reads can give up in the same line.
        private boolean fail(int code) {
            errorCode = code;
            errorPosition = tokenStart;
            return false;
        }

        private boolean isWord(String word) {
            if (token != WORD || next - tokenStart != word.length()) {
                return false;
            }
            for (int i = 0; i < word.length(); i++) {
                if (byteAt(tokenStart + i) != word.charAt(i)) {
                    return false;
                }
            }
            return true;
        }

        private int byteAt(int index) {
            return index >= 0 && index < length && index < bytes.length ? bytes[index] : NONE;
        }

        private void readToken() {
            while (next < length && (byteAt(next) == ' ' || byteAt(next) == '\n')) {
                next++;
            }
            tokenStart = next;
            if (next >= length) {
                token = END;
            } else if (isLetter(byteAt(next))) {
                token = WORD;
                while (next < length && isLetter(byteAt(next))) {
                    next++;
                }
            } else if (isDigit(byteAt(next))) {
                token = NUMBER;
                readDigits();
            } else {
                token = byteAt(next) == ';' ? SEMICOLON : OTHER;
                next++;
            }
        }

        private void readDigits() {
            number = 0;
            while (next < length && isDigit(byteAt(next))) {
                if (number < HUGE) {
                    number = number * 10 + byteAt(next) - '0';
                }
                next++;
            }
        }

        private static boolean isLetter(int part) {
            return part >= 'a' && part <= 'z';
        }

        private static boolean isDigit(int part) {
            return part >= '0' && part <= '9';
        }
    }
}
