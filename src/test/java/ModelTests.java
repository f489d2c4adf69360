import java.util.ArrayDeque;
import java.util.ArrayList;
import java.util.Deque;
import java.util.HashMap;
import java.util.List;
import java.util.Map;
import java.util.NoSuchElementException;
import java.util.TreeSet;

/**
 * Long runs of calls on FogBellMarket beside a second market that is written straight from the
 * document, in another way. The runs come from a counting generator with fixed seeds, so they are
 * always the same.
 */
public final class ModelTests {
    private static final int RUNS = 500;
    private static final int CALLS = 110;
    private static int wrong = 0;
    private static int compared = 0;

    public static void main(String[] args) {
        for (int run = 0; run < RUNS; run++) {
            new Walk(run).go();
        }
        System.out.println(compared + " answers compared, " + wrong + " wrong");
        if (wrong != 0) {
            System.exit(1);
        }
    }

    interface Call {
        Object answer();
    }

    private static String outcome(Call call) {
        try {
            return String.valueOf(call.answer());
        } catch (RuntimeException thrown) {
            return "throws " + thrown.getClass().getSimpleName();
        }
    }

    // ------------------------------------------------------------------ the second market

    private static final class ModelStall implements Cloneable {
        int at, lamp, cloth, cost, stock, sold, lost, till, came;

        @Override
        public ModelStall clone() {
            try {
                return (ModelStall) super.clone();
            } catch (CloneNotSupportedException impossible) {
                throw new AssertionError(impossible);
            }
        }
    }

    private static final class ModelBuyer {
        int at, purse, cloth, pace, bought;
        Integer holdsOf;
        int owes;
        TreeSet<Integer> shuns = new TreeSet<>();

        ModelBuyer copy() {
            ModelBuyer twin = new ModelBuyer();
            twin.at = at;
            twin.purse = purse;
            twin.cloth = cloth;
            twin.pace = pace;
            twin.bought = bought;
            twin.holdsOf = holdsOf;
            twin.owes = owes;
            twin.shuns = new TreeSet<>(shuns);
            return twin;
        }

        int shunMask() {
            int mask = 0;
            for (int s : shuns) {
                mask += 1 << s;
            }
            return mask;
        }
    }

    private static final class ModelState {
        int minute, bellAt, threshold, duration, rung;
        Integer openSince;
        boolean ready = true;
        List<Integer> fog = new ArrayList<>();
        List<ModelStall> stalls = new ArrayList<>();
        List<ModelBuyer> buyers = new ArrayList<>();
        // The minutes in which the bell rang or ended last, and who paid in the last minute.
        int lastRing = -1, lastEnd = -1;
        List<Integer> paidNow = new ArrayList<>();

        ModelState copy() {
            ModelState twin = new ModelState();
            twin.minute = minute;
            twin.bellAt = bellAt;
            twin.threshold = threshold;
            twin.duration = duration;
            twin.rung = rung;
            twin.openSince = openSince;
            twin.ready = ready;
            twin.fog.addAll(fog);
            for (ModelStall s : stalls) {
                twin.stalls.add(s.clone());
            }
            for (ModelBuyer b : buyers) {
                twin.buyers.add(b.copy());
            }
            twin.lastRing = lastRing;
            twin.lastEnd = lastEnd;
            return twin;
        }

        int fogAt(int m) {
            return fog.get((m / 5) % fog.size());
        }

        static int reach(int lamp, int f) {
            return new int[] {30 - 2 * f, 24 - f, 45 - 5 * f, 12}[lamp];
        }

        int target(ModelBuyer b) {
            int best = -1;
            for (int i = 0; i < stalls.size(); i++) {
                ModelStall s = stalls.get(i);
                int far = Math.abs(s.at - b.at);
                if (b.shuns.contains(i) || far > reach(s.lamp, fogAt(minute))) {
                    continue;
                }
                if (best < 0 || far < Math.abs(stalls.get(best).at - b.at)) {
                    best = i;
                }
            }
            return best;
        }

        static int touch(ModelBuyer b, ModelStall s) {
            if (b.cloth != s.cloth) {
                return 1;
            }
            if (s.stock == 0) {
                return 2;
            }
            return s.cost > b.purse ? 3 : 0;
        }

        static void step(ModelBuyer b, int goal) {
            int left = Math.abs(goal - b.at);
            b.at += Integer.signum(goal - b.at) * Math.min(left, b.pace);
        }

        void bell(int f) {
            if (f < threshold) {
                ready = true;
            }
            if (openSince != null) {
                if (f < threshold || minute - openSince >= duration) {
                    openSince = null;
                    lastEnd = minute;
                    for (ModelBuyer b : buyers) {
                        if (b.holdsOf != null) {
                            stalls.get(b.holdsOf).stock += 1;
                        }
                        b.holdsOf = null;
                        b.owes = 0;
                        b.shuns.clear();
                    }
                }
            } else if (ready && f >= threshold) {
                openSince = minute;
                rung++;
                ready = false;
                lastRing = minute;
            }
        }

        void act(int who) {
            ModelBuyer b = buyers.get(who);
            if (b.holdsOf != null) {
                step(b, bellAt);
                if (b.at == bellAt) {
                    ModelStall s = stalls.get(b.holdsOf);
                    b.purse -= b.owes;
                    s.till += b.owes;
                    s.sold++;
                    b.bought++;
                    b.holdsOf = null;
                    b.owes = 0;
                    paidNow.add(who);
                }
                return;
            }
            int goal = target(b);
            if (goal < 0) {
                return;
            }
            ModelStall s = stalls.get(goal);
            step(b, s.at);
            if (b.at == s.at) {
                if (touch(b, s) == 0) {
                    s.stock--;
                    b.holdsOf = goal;
                    b.owes = s.cost;
                } else {
                    b.shuns.add(goal);
                }
            }
        }

        ModelState tick() {
            paidNow.clear();
            int f = fogAt(minute);
            bell(f);
            if (openSince != null) {
                for (int i = 0; i < buyers.size(); i++) {
                    act(i);
                }
                for (ModelStall s : stalls) {
                    if (s.stock > 0 && f > new int[] {7, 5, 6, 9}[s.lamp]) {
                        s.stock--;
                        s.lost++;
                    }
                }
            }
            minute++;
            return this;
        }

        ModelState after(int minutes) {
            ModelState later = copy();
            for (int i = 0; i < minutes; i++) {
                later.tick();
            }
            return later;
        }

        int allEarned() {
            return stalls.stream().mapToInt(s -> s.till).sum();
        }

        int allSold() {
            return stalls.stream().mapToInt(s -> s.sold).sum();
        }
    }

    private static final class TextError extends Exception {
        private static final long serialVersionUID = 1L;
        final int code, at;

        TextError(int code, int at) {
            super(null, null, false, false);
            this.code = code;
            this.at = at;
        }
    }

    private record Token(char sort, String text, int at) { }

    /** Reads a text by cutting it into tokens first: 'w' word, 'n' number, ';', '?' no token, '$' the end. */
    private static final class ModelText {
        final List<Token> tokens = new ArrayList<>();
        int now = 0;

        ModelText(String text) {
            int i = 0;
            while (i < text.length()) {
                char c = text.charAt(i);
                int end = i + 1;
                if (c == ' ' || c == 10) {
                    i++;
                    continue;
                }
                char sort = c == ';' ? ';' : '?';
                if ("abcdefghijklmnopqrstuvwxyz".indexOf(c) >= 0) {
                    sort = 'w';
                    while (end < text.length() && "abcdefghijklmnopqrstuvwxyz".indexOf(text.charAt(end)) >= 0) {
                        end++;
                    }
                } else if ("0123456789".indexOf(c) >= 0) {
                    sort = 'n';
                    while (end < text.length() && "0123456789".indexOf(text.charAt(end)) >= 0) {
                        end++;
                    }
                }
                tokens.add(new Token(sort, text.substring(i, end), i));
                i = end;
            }
            tokens.add(new Token('$', "", text.length()));
        }

        Token take(char sort) throws TextError {
            Token t = tokens.get(now++);
            if (t.sort != sort) {
                throw new TextError(1, t.at);
            }
            return t;
        }

        int oneOf(String... words) throws TextError {
            Token t = take('w');
            for (int i = 0; i < words.length; i++) {
                if (words[i].equals(t.text)) {
                    return i;
                }
            }
            throw new TextError(1, t.at);
        }

        int number(int low, int high) throws TextError {
            Token t = take('n');
            java.math.BigInteger value = new java.math.BigInteger(t.text);
            if (value.compareTo(java.math.BigInteger.valueOf(low)) < 0
                || value.compareTo(java.math.BigInteger.valueOf(high)) > 0) {
                throw new TextError(2, t.at);
            }
            return value.intValue();
        }

        int lastAt() {
            return tokens.get(now - 1).at;
        }

        ModelState setup() throws TextError {
            ModelState s = new ModelState();
            oneOf("market");
            s.threshold = number(1, 9);
            s.duration = number(1, 60);
            s.bellAt = number(0, 99);
            take(';');
            oneOf("fog");
            s.fog.add(number(0, 9));
            while (tokens.get(now).sort == 'n') {
                int density = number(0, 9);
                if (s.fog.size() == 12) {
                    throw new TextError(4, lastAt());
                }
                s.fog.add(density);
            }
            take(';');
            commands(s);
            return s;
        }

        int commands(ModelState s) throws TextError {
            int done = 0;
            while (tokens.get(now).sort != '$') {
                int verb = oneOf("stall", "buyer", "price", "stock", "lantern", "move", "fog", "back", "minutes");
                if (done == 40 || verb == 0 && s.stalls.size() == 6 || verb == 1 && s.buyers.size() == 6) {
                    throw new TextError(4, lastAt());
                }
                command(s, verb);
                done++;
            }
            return done;
        }

        void command(ModelState s, int verb) throws TextError {
            if (verb == 0) {
                ModelStall n = new ModelStall();
                n.at = number(0, 99);
                n.lamp = oneOf("red", "green", "blue", "white");
                n.cloth = oneOf("rough", "smooth", "soft");
                n.cost = number(1, 999);
                n.stock = number(0, 99);
                n.came = n.stock;
                take(';');
                s.stalls.add(n);
            } else if (verb == 1) {
                ModelBuyer n = new ModelBuyer();
                n.at = number(0, 99);
                n.purse = number(0, 9999);
                n.cloth = oneOf("rough", "smooth", "soft");
                n.pace = number(1, 20);
                take(';');
                s.buyers.add(n);
            } else if (verb == 6) {
                int index = number(0, s.fog.size() - 1);
                int density = number(0, 9);
                take(';');
                s.fog.set(index, density);
            } else if (verb == 7) {
                int who = number(0, s.buyers.size() - 1);
                ModelBuyer b = s.buyers.get(who);
                if (b.holdsOf == null) {
                    throw new TextError(3, lastAt());
                }
                take(';');
                back(s, b);
            } else if (verb == 8) {
                int count = number(1, 100);
                take(';');
                for (int i = 0; i < count; i++) {
                    s.tick();
                }
            } else {
                stallCommand(s, verb);
            }
        }

        void stallCommand(ModelState s, int verb) throws TextError {
            ModelStall stall = s.stalls.get(number(0, s.stalls.size() - 1));
            if (verb == 2) {
                int cost = number(1, 999);
                take(';');
                stall.cost = cost;
            } else if (verb == 3) {
                int goods = number(0, 99);
                if (stall.stock + goods > 99) {
                    throw new TextError(3, lastAt());
                }
                take(';');
                stall.stock += goods;
                stall.came += goods;
            } else if (verb == 4) {
                int lamp = oneOf("red", "green", "blue", "white");
                take(';');
                stall.lamp = lamp;
            } else {
                int at = number(0, 99);
                take(';');
                stall.at = at;
            }
        }
    }

    private static int back(ModelState s, ModelBuyer b) {
        int which = b.holdsOf;
        s.stalls.get(which).stock++;
        b.shuns.add(which);
        b.holdsOf = null;
        b.owes = 0;
        return which;
    }

    private static final class Model {
        ModelState s;
        final StringBuilder input = new StringBuilder();
        String output = "";
        int code = 0, at = -1;
        final Deque<ModelState> past = new ArrayDeque<>();
        final Map<Integer, ModelState> slots = new HashMap<>();

        Model() {
            input.append("market 4 20 10; fog 2 5 7 3 8; stall 30 red smooth 12 5; stall 18 white soft 7 3; "
                + "stall 55 blue smooth 9 2; buyer 25 40 smooth 6; buyer 0 6 soft 4; buyer 60 100 smooth 9; minutes 7;");
            loadSetup();
        }

        int feed(int[] words) {
            StringBuilder more = new StringBuilder();
            for (int w : words) {
                for (byte b : java.nio.ByteBuffer.allocate(4).putInt(w).array()) {
                    if (b != 0) {
                        more.append((char) (b & 255));
                    }
                }
            }
            if (input.length() + more.length() > 700) {
                return -1;
            }
            input.append(more);
            return input.length();
        }

        int loadSetup() {
            try {
                s = new ModelText(input.toString()).setup();
                past.clear();
                slots.clear();
                code = 0;
                at = -1;
                return s.stalls.size();
            } catch (TextError e) {
                code = e.code;
                at = e.at;
                return -1;
            } finally {
                input.setLength(0);
            }
        }

        int runScript() {
            ModelState next = s.copy();
            try {
                int count = new ModelText(input.toString()).commands(next);
                keep();
                s = next;
                code = 0;
                at = -1;
                return count;
            } catch (TextError e) {
                code = e.code;
                at = e.at;
                return -1;
            } finally {
                input.setLength(0);
            }
        }

        void keep() {
            past.push(s.copy());
            if (past.size() > 8) {
                past.removeLast();
            }
        }

        ModelStall stall(int i) {
            if (i < 0 || i >= s.stalls.size()) {
                throw new IndexOutOfBoundsException();
            }
            return s.stalls.get(i);
        }

        ModelBuyer buyer(int i) {
            if (i < 0 || i >= s.buyers.size()) {
                throw new IndexOutOfBoundsException();
            }
            return s.buyers.get(i);
        }

        void range(boolean good) {
            if (!good) {
                throw new IllegalArgumentException();
            }
        }

        void state(boolean good) {
            if (!good) {
                throw new IllegalStateException();
            }
        }

        int minutesToBell() {
            ModelState later = s.copy();
            for (int m = 0; m <= 200; m++) {
                int begins = later.minute;
                later.tick();
                if (later.lastRing == begins) {
                    return m;
                }
            }
            return -1;
        }

        int minutesToEnd() {
            if (s.openSince == null) {
                return -1;
            }
            ModelState later = s.copy();
            for (int m = 0; m <= 200; m++) {
                int begins = later.minute;
                later.tick();
                if (later.lastEnd == begins) {
                    return m;
                }
            }
            return -1;
        }

        int heldOf(int stall) {
            stall(stall);
            return (int) s.buyers.stream().filter(b -> b.holdsOf != null && b.holdsOf == stall).count();
        }

        int seenFrom(int position) {
            range(position >= 0 && position <= 99);
            int mask = 0;
            for (int i = 0; i < s.stalls.size(); i++) {
                ModelStall stall = s.stalls.get(i);
                if (Math.abs(stall.at - position) <= ModelState.reach(stall.lamp, s.fogAt(s.minute))) {
                    mask |= 1 << i;
                }
            }
            return mask;
        }

        double meanPaid() {
            return s.allSold() == 0 ? 0.0 : (double) s.allEarned() / (double) s.allSold();
        }

        float spoiledShare() {
            int lost = s.stalls.stream().mapToInt(t -> t.lost).sum();
            int came = s.stalls.stream().mapToInt(t -> t.came).sum();
            return came == 0 ? 0.0f : (float) lost / (float) came;
        }

        int minutesToPay(int who) {
            buyer(who);
            ModelState later = s.copy();
            for (int m = 1; m <= 200; m++) {
                if (later.tick().paidNow.contains(who)) {
                    return m;
                }
            }
            return -1;
        }

        int nextPayer() {
            ModelState later = s.copy();
            for (int m = 1; m <= 200; m++) {
                if (!later.tick().paidNow.isEmpty()) {
                    return later.paidNow.get(0);
                }
            }
            return -1;
        }

        int bestPrice(int which) {
            stall(which);
            int[] earned = new int[61];
            for (int price = 1; price <= 60; price++) {
                ModelState other = s.copy();
                other.stalls.get(which).cost = price;
                earned[price] = other.after(60).stalls.get(which).till;
            }
            return firstGreatest(earned, 1);
        }

        int bestLantern(int which) {
            stall(which);
            int[] earned = new int[4];
            for (int lamp = 0; lamp < 4; lamp++) {
                ModelState other = s.copy();
                other.stalls.get(which).lamp = lamp;
                earned[lamp] = other.after(60).stalls.get(which).till;
            }
            return firstGreatest(earned, 0);
        }

        int bestBellPosition() {
            int[] earned = new int[100];
            for (int at = 0; at < 100; at++) {
                ModelState other = s.copy();
                other.bellAt = at;
                earned[at] = other.after(60).allEarned();
            }
            return firstGreatest(earned, 0);
        }

        static int firstGreatest(int[] values, int from) {
            int best = from;
            for (int i = from; i < values.length; i++) {
                best = values[i] > values[best] ? i : best;
            }
            return best;
        }

        int earningsAfter(int which, int minutes) {
            stall(which);
            range(minutes >= 0 && minutes <= 200);
            return s.after(minutes).stalls.get(which).till;
        }

        int addStall(int at, int lamp, int cloth, int cost, int stock) {
            range(at >= 0 && at <= 99 && lamp >= 0 && lamp <= 3 && cloth >= 0 && cloth <= 2);
            range(cost >= 1 && cost <= 999 && stock >= 0 && stock <= 99);
            state(s.stalls.size() < 6);
            keep();
            ModelStall n = new ModelStall();
            n.at = at;
            n.lamp = lamp;
            n.cloth = cloth;
            n.cost = cost;
            n.stock = stock;
            n.came = stock;
            s.stalls.add(n);
            return s.stalls.size() - 1;
        }

        int addBuyer(int at, int purse, int cloth, int pace) {
            range(at >= 0 && at <= 99 && purse >= 0 && purse <= 9999 && cloth >= 0 && cloth <= 2);
            range(pace >= 1 && pace <= 20);
            state(s.buyers.size() < 6);
            keep();
            ModelBuyer n = new ModelBuyer();
            n.at = at;
            n.purse = purse;
            n.cloth = cloth;
            n.pace = pace;
            s.buyers.add(n);
            return s.buyers.size() - 1;
        }

        int setPrice(int which, int cost) {
            stall(which);
            range(cost >= 1 && cost <= 999);
            keep();
            int old = stall(which).cost;
            stall(which).cost = cost;
            return old;
        }

        int addStock(int which, int goods) {
            stall(which);
            range(goods >= 0 && goods <= 99);
            state(stall(which).stock + goods <= 99);
            keep();
            stall(which).came += goods;
            return stall(which).stock += goods;
        }

        int setLantern(int which, int lamp) {
            stall(which);
            range(lamp >= 0 && lamp <= 3);
            keep();
            int old = stall(which).lamp;
            stall(which).lamp = lamp;
            return old;
        }

        int moveStall(int which, int at) {
            stall(which);
            range(at >= 0 && at <= 99);
            keep();
            int old = stall(which).at;
            stall(which).at = at;
            return old;
        }

        int setFog(int index, int density) {
            if (index < 0 || index >= s.fog.size()) {
                throw new IndexOutOfBoundsException();
            }
            range(density >= 0 && density <= 9);
            keep();
            return s.fog.set(index, density);
        }

        int putBack(int who) {
            buyer(who);
            state(buyer(who).holdsOf != null);
            keep();
            return back(s, buyer(who));
        }

        int passMinutes(int minutes) {
            range(minutes >= 1 && minutes <= 100);
            keep();
            int sold = s.allSold();
            s = s.after(minutes);
            return s.allSold() - sold;
        }

        int undo() {
            state(!past.isEmpty());
            s = past.pop();
            return past.size();
        }

        int save(int slot) {
            range(slot == 0 || slot == 1);
            slots.put(slot, s.copy());
            return s.minute;
        }

        int restore(int slot) {
            range(slot == 0 || slot == 1);
            if (!slots.containsKey(slot)) {
                throw new NoSuchElementException();
            }
            s = slots.get(slot).copy();
            past.clear();
            return s.minute;
        }

        int writeRope() {
            StringBuilder rope = new StringBuilder();
            for (int p = 0; p < 100; p++) {
                rope.append(signAt(p));
            }
            output = rope.toString();
            return output.length();
        }

        char signAt(int p) {
            if (p == s.bellAt) {
                return '*';
            }
            for (int i = 0; i < s.buyers.size(); i++) {
                if (s.buyers.get(i).at == p) {
                    return "abcdef".charAt(i);
                }
            }
            for (int i = 0; i < s.stalls.size(); i++) {
                if (s.stalls.get(i).at == p) {
                    return "ABCDEF".charAt(i);
                }
            }
            return '-';
        }

        int outputByte(int i) {
            return i < 0 || i >= output.length() ? -1 : output.charAt(i);
        }
    }

    // ------------------------------------------------------------------ the walks

    private static final class Walk {
        final int run;
        long dice;
        final List<String> story = new ArrayList<>();
        final FogBellMarket real = new FogBellMarket();
        final Model model = new Model();
        // What an object answers after its 512th call is free.
        int calls = 0;

        Walk(int run) {
            this.run = run;
            this.dice = run * 7919L + 17;
        }

        int roll(int sides) {
            dice = dice * 6364136223846793005L + 1442695040888963407L;
            return (int) ((dice >>> 33) % sides);
        }

        boolean chance(int percent) {
            return roll(100) < percent;
        }

        void same(String call, Call a, Call b) {
            if (calls >= 512) {
                return;
            }
            calls++;
            compared++;
            String got = outcome(a);
            String due = outcome(b);
            story.add(call + " = " + due);
            if (!got.equals(due)) {
                wrong++;
                if (wrong <= 20) {
                    System.out.println("run " + run + ": " + call + " answered " + got + ", due is " + due);
                    System.out.println("  after " + story.subList(Math.max(0, story.size() - 12), story.size()));
                }
            }
        }

        void go() {
            if (chance(70)) {
                setupText();
            }
            for (int i = 0; i < CALLS && calls < 500; i++) {
                step();
            }
        }

        int stall() {
            return chance(85) && !model.s.stalls.isEmpty() ? roll(model.s.stalls.size()) : roll(9) - 1;
        }

        int buyer() {
            return chance(85) && !model.s.buyers.isEmpty() ? roll(model.s.buyers.size()) : roll(9) - 1;
        }

        /** Mostly a value in range, else one at or beyond its edges. */
        int value(int low, int high) {
            if (chance(88)) {
                return low + roll(high - low + 1);
            }
            int[] edges = {low, high, low - 1, high + 1, Integer.MIN_VALUE, Integer.MAX_VALUE};
            return edges[roll(edges.length)];
        }

        void step() {
            int kind = roll(100);
            if (kind < 22) {
                passSome();
            } else if (kind < 50) {
                change();
            } else if (kind < 60) {
                states();
            } else if (kind < 68) {
                if (chance(20)) {
                    setupText();
                } else {
                    feedText(scriptText(), false);
                }
            } else if (kind < 72) {
                rope();
            } else if (kind < 80) {
                predictions();
            } else {
                looks();
            }
        }

        void passSome() {
            int n = chance(80) ? 1 + roll(6) : value(1, 100);
            same("passMinutes " + n, () -> real.passMinutes(n), () -> model.passMinutes(n));
        }

        void change() {
            int s = stall();
            int b = buyer();
            int at = value(0, 99);
            int lamp = value(0, 3);
            int cloth = value(0, 2);
            int cost = chance(70) ? value(1, 20) : value(1, 999);
            int stock = chance(70) ? value(0, 5) : value(0, 99);
            int purse = chance(70) ? value(0, 60) : value(0, 9999);
            int pace = value(1, 20);
            int index = chance(85) ? roll(model.s.fog.size()) : roll(15) - 1;
            int f = value(0, 9);
            switch (roll(8)) {
                case 0:
                    same("addStall " + at + " " + lamp + " " + cloth + " " + cost + " " + stock,
                        () -> real.addStall(at, lamp, cloth, cost, stock), () -> model.addStall(at, lamp, cloth, cost, stock));
                    break;
                case 1:
                    same("addBuyer " + at + " " + purse + " " + cloth + " " + pace,
                        () -> real.addBuyer(at, purse, cloth, pace), () -> model.addBuyer(at, purse, cloth, pace));
                    break;
                case 2:
                    same("setPrice " + s + " " + cost, () -> real.setPrice(s, cost), () -> model.setPrice(s, cost));
                    break;
                case 3:
                    same("addStock " + s + " " + stock, () -> real.addStock(s, stock), () -> model.addStock(s, stock));
                    break;
                case 4:
                    same("setLantern " + s + " " + lamp, () -> real.setLantern(s, lamp), () -> model.setLantern(s, lamp));
                    break;
                case 5:
                    same("moveStall " + s + " " + at, () -> real.moveStall(s, at), () -> model.moveStall(s, at));
                    break;
                case 6:
                    same("setFog " + index + " " + f, () -> real.setFog(index, f), () -> model.setFog(index, f));
                    break;
                default:
                    same("putBack " + b, () -> real.putBack(b), () -> model.putBack(b));
            }
        }

        void states() {
            int slot = chance(85) ? roll(2) : roll(5) - 2;
            switch (roll(4)) {
                case 0:
                    same("save " + slot, () -> real.save(slot), () -> model.save(slot));
                    break;
                case 1:
                    if (chance(40)) {
                        same("restore " + slot, () -> real.restore(slot), () -> model.restore(slot));
                    }
                    break;
                default:
                    int times = chance(15) ? 9 : 1 + roll(2);
                    for (int i = 0; i < times; i++) {
                        same("undo", () -> real.undo(), () -> model.undo());
                    }
            }
        }

        void rope() {
            if (chance(80)) {
                same("writeRope", () -> real.writeRope(), () -> model.writeRope());
            }
            for (int i = 0; i < 8; i++) {
                int at = value(0, 99);
                same("outputByte " + at, () -> real.outputByte(at), () -> model.outputByte(at));
            }
            for (int i = 0; i < model.s.stalls.size(); i++) {
                int at = model.s.stalls.get(i).at;
                same("outputByte " + at, () -> real.outputByte(at), () -> model.outputByte(at));
            }
        }

        void predictions() {
            int s = stall();
            int b = buyer();
            int n = value(0, 200);
            same("minutesToBell", () -> real.minutesToBell(), () -> model.minutesToBell());
            same("minutesToEnd", () -> real.minutesToEnd(), () -> model.minutesToEnd());
            same("minutesToPay " + b, () -> real.minutesToPay(b), () -> model.minutesToPay(b));
            same("earningsAfter " + s + " " + n, () -> real.earningsAfter(s, n), () -> model.earningsAfter(s, n));
            same("nextPayer", () -> real.nextPayer(), () -> model.nextPayer());
            if (chance(40)) {
                same("bestPrice " + s, () -> real.bestPrice(s), () -> model.bestPrice(s));
                same("bestLantern " + s, () -> real.bestLantern(s), () -> model.bestLantern(s));
                same("bestBellPosition", () -> real.bestBellPosition(), () -> model.bestBellPosition());
            }
        }

        void looks() {
            ModelState now = model.s;
            switch (roll(4)) {
                case 0:
                    lookAtBell(now);
                    break;
                case 1:
                    lookAtStall(stall());
                    break;
                case 2:
                    lookAtBuyer(buyer());
                    break;
                default:
                    lookAtAll();
            }
        }

        void lookAtBell(ModelState now) {
            int m = chance(60) ? now.minute + roll(60) : value(0, 99999);
            same("minute", () -> real.minute(), () -> now.minute);
            same("bellPosition", () -> real.bellPosition(), () -> now.bellAt);
            same("threshold", () -> real.threshold(), () -> now.threshold);
            same("duration", () -> real.duration(), () -> now.duration);
            same("undoCount", () -> real.undoCount(), () -> model.past.size());
            same("isOpen", () -> real.isOpen(), () -> now.openSince != null);
            same("isReady", () -> real.isReady(), () -> now.ready);
            same("openMinutes", () -> real.openMinutes(), () -> now.openSince == null ? 0 : now.minute - now.openSince);
            same("ringings", () -> real.ringings(), () -> now.rung);
            same("fogIn " + m, () -> real.fogIn(m), () -> {
                model.range(m >= 0 && m <= 99999);
                return now.fogAt(m);
            });
        }

        void lookAtStall(int s) {
            same("stallCount", () -> real.stallCount(), () -> model.s.stalls.size());
            same("positionOf " + s, () -> real.positionOf(s), () -> model.stall(s).at);
            same("lanternOf " + s, () -> real.lanternOf(s), () -> model.stall(s).lamp);
            same("textureOf " + s, () -> real.textureOf(s), () -> model.stall(s).cloth);
            same("priceOf " + s, () -> real.priceOf(s), () -> model.stall(s).cost);
            same("stockOf " + s, () -> real.stockOf(s), () -> model.stall(s).stock);
            same("heldOf " + s, () -> real.heldOf(s), () -> model.heldOf(s));
            same("soldOf " + s, () -> real.soldOf(s), () -> model.stall(s).sold);
            same("lostOf " + s, () -> real.lostOf(s), () -> model.stall(s).lost);
            same("earnings " + s, () -> real.earnings(s), () -> model.stall(s).till);
        }

        void lookAtBuyer(int b) {
            int s = stall();
            same("buyerCount", () -> real.buyerCount(), () -> model.s.buyers.size());
            same("placeOf " + b, () -> real.placeOf(b), () -> model.buyer(b).at);
            same("coinsOf " + b, () -> real.coinsOf(b), () -> model.buyer(b).purse);
            same("wantedTexture " + b, () -> real.wantedTexture(b), () -> model.buyer(b).cloth);
            same("speedOf " + b, () -> real.speedOf(b), () -> model.buyer(b).pace);
            same("heldFrom " + b, () -> real.heldFrom(b), () -> {
                Integer held = model.buyer(b).holdsOf;
                return held == null ? -1 : held;
            });
            same("debtOf " + b, () -> real.debtOf(b), () -> model.buyer(b).owes);
            same("avoidedBy " + b, () -> real.avoidedBy(b), () -> model.buyer(b).shunMask());
            same("boughtBy " + b, () -> real.boughtBy(b), () -> model.buyer(b).bought);
            same("targetOf " + b, () -> real.targetOf(b), () -> {
                ModelBuyer who = model.buyer(b);
                return who.holdsOf != null ? -1 : model.s.target(who);
            });
            same("touch " + b + " " + s, () -> real.touch(b, s), () -> ModelState.touch(model.buyer(b), model.stall(s)));
        }

        void lookAtAll() {
            int at = value(0, 99);
            int lamp = value(0, 3);
            int f = value(0, 9);
            same("seenFrom " + at, () -> real.seenFrom(at), () -> model.seenFrom(at));
            same("reach " + lamp + " " + f, () -> real.reach(lamp, f), () -> {
                model.range(lamp >= 0 && lamp <= 3 && f >= 0 && f <= 9);
                return ModelState.reach(lamp, f);
            });
            same("coinsInAll", () -> real.coinsInAll(),
                () -> model.s.allEarned() + model.s.buyers.stream().mapToInt(b -> b.purse).sum());
            same("consistencyError", () -> real.consistencyError(), () -> 0);
            same("meanPaid", () -> real.meanPaid(), () -> model.meanPaid());
            same("spoiledShare", () -> real.spoiledShare(), () -> model.spoiledShare());
        }

        // ---- texts

        void setupText() {
            StringBuilder text = new StringBuilder();
            text.append("market ").append(textValue(1, 9)).append(' ').append(textValue(1, 60)).append(' ')
                .append(textValue(0, 99)).append("; fog");
            int densities = chance(96) ? 1 + roll(12) : 13;
            for (int i = 0; i < densities; i++) {
                text.append(' ').append(textValue(0, 9));
            }
            text.append(';');
            int stalls = chance(95) ? roll(7) : 7;
            for (int i = 0; i < stalls; i++) {
                text.append(stallText());
            }
            int buyers = chance(95) ? roll(7) : 7;
            for (int i = 0; i < buyers; i++) {
                text.append(buyerText());
            }
            if (chance(70)) {
                text.append("minutes ").append(textValue(1, 30)).append(';');
            }
            feedText(text.toString(), true);
        }

        String scriptText() {
            StringBuilder text = new StringBuilder();
            int commands = chance(94) ? roll(7) : 38 + roll(5);
            for (int i = 0; i < commands; i++) {
                text.append(commands > 7 ? "move 0 1;" : commandText());
            }
            return text.toString();
        }

        String commandText() {
            switch (roll(9)) {
                case 0:
                    return stallText();
                case 1:
                    return buyerText();
                case 2:
                    return "price " + stall() + " " + textValue(1, 999) + ";";
                case 3:
                    return "stock " + stall() + " " + (chance(70) ? textValue(0, 9) : textValue(0, 99)) + ";\n";
                case 4:
                    return "lantern " + stall() + " " + lantern() + ";";
                case 5:
                    return "move " + stall() + " " + textValue(0, 99) + " ; ";
                case 6:
                    return "fog " + roll(model.s.fog.size()) + " " + textValue(0, 9) + ";";
                case 7:
                    return "back " + buyer() + ";";
                default:
                    return "minutes " + (chance(90) ? textValue(1, 8) : textValue(1, 100)) + ";";
            }
        }

        String lantern() {
            return new String[] {"red", "green", "blue", "white"}[roll(4)];
        }

        String texture() {
            return new String[] {"rough", "smooth", "soft"}[roll(3)];
        }

        String stallText() {
            return "stall " + textValue(0, 99) + " " + lantern() + " " + texture() + " " + textValue(1, chance(70) ? 20 : 999)
                + " " + textValue(0, chance(70) ? 6 : 99) + ";";
        }

        String buyerText() {
            return "buyer " + textValue(0, 99) + " " + textValue(0, chance(70) ? 60 : 9999) + " " + texture() + " "
                + textValue(1, 20) + ";";
        }

        String textValue(int low, int high) {
            if (chance(99)) {
                return (chance(5) ? "000" : "") + (low + roll(high - low + 1));
            }
            String[] edges = {"" + low, "" + high, "" + (high + 1), low > 0 ? "0" : "00", "99999999999999999999", "4294967297"};
            return edges[roll(edges.length)];
        }

        String spoil(String text) {
            if (text.isEmpty()) {
                return " ";
            }
            int at = roll(text.length());
            String head = text.substring(0, at);
            switch (roll(5)) {
                case 0:
                    return head;
                case 1:
                    return head + text.substring(at + 1);
                case 2:
                    return head + "abz059; \n-_A{~\t\u00e9\u00ff:/`".charAt(roll(20)) + text.substring(at);
                case 3:
                    return head + "  \n " + text.substring(at);
                default:
                    return text + (chance(50) ? " " : ";");
            }
        }

        void feedText(String text, boolean setup) {
            String sent = chance(35) ? spoil(text) : text;
            List<Integer> bytes = new ArrayList<>();
            for (char c : sent.toCharArray()) {
                bytes.add((int) c);
                if (chance(3)) {
                    bytes.add(0);
                }
            }
            for (int i = 0; i < bytes.size(); i += 20) {
                int[] w = new int[5];
                for (int k = 0; k < 20 && i + k < bytes.size(); k++) {
                    w[k / 4] |= bytes.get(i + k) << (24 - 8 * (k % 4));
                }
                same("feed", () -> real.feed(w[0], w[1], w[2], w[3], w[4]), () -> model.feed(w));
            }
            if (setup == chance(98)) {
                same("loadSetup of " + sent, () -> real.loadSetup(), () -> model.loadSetup());
            } else {
                same("runScript of " + sent, () -> real.runScript(), () -> model.runScript());
            }
            same("errorCode", () -> real.errorCode(), () -> model.code);
            same("errorPosition", () -> real.errorPosition(), () -> model.at);
            if (chance(50)) {
                lookAtBell(model.s);
                lookAtBuyer(buyer());
                lookAtStall(stall());
            }
        }
    }
}
