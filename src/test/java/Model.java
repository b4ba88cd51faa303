import java.util.ArrayList;
import java.util.Comparator;
import java.util.List;
import java.util.NoSuchElementException;
import java.util.regex.Matcher;
import java.util.regex.Pattern;

/**
 * The document once more, written another way: contracts are objects, states are copied whole, a default is carried out
 * on copies for every choice of takers, payments are looked for in every division, and texts are read by patterns.
 */
public final class Model {
    private static final String D = " [0-9]";
    private static final String N = " [0-9]{1,2}";
    private static final String M = " [0-9]{1,4}";
    private static final String COMMAND = "(horizon" + N + N + "|trader" + M + "|trade" + D + D + D + N + D
        + "|quote" + D + N + "|dawn|pay" + D + M + "|draw" + D + M + "|give" + D + M + ")";
    private static final Pattern TEXT = Pattern.compile(COMMAND + "(;" + COMMAND + ")*");

    private static final class Contract {
        int buyer;
        int seller;
        int horizon;
        int quantity;
        int end;

        Contract copy() {
            Contract c = new Contract();
            c.buyer = buyer;
            c.seller = seller;
            c.horizon = horizon;
            c.quantity = quantity;
            c.end = end;
            return c;
        }
    }

    private static final class State {
        List<int[]> horizons = new ArrayList<>();
        List<Integer> money = new ArrayList<>();
        List<Boolean> called = new ArrayList<>();
        List<Boolean> fallen = new ArrayList<>();
        List<Contract> contracts = new ArrayList<>();
        int day;
        int fund;
        int lost;
        long in;
        long out;

        State copy() {
            State s = new State();
            for (int[] horizon : horizons) {
                s.horizons.add(horizon.clone());
            }
            s.money.addAll(money);
            s.called.addAll(called);
            s.fallen.addAll(fallen);
            for (Contract c : contracts) {
                s.contracts.add(c.copy());
            }
            s.day = day;
            s.fund = fund;
            s.lost = lost;
            s.in = in;
            s.out = out;
            return s;
        }

        boolean sound(int t) {
            return !called.get(t) && !fallen.get(t);
        }

        int position(int t, int h) {
            return contracts.stream().filter(c -> c.horizon == h)
                .mapToInt(c -> (c.buyer == t ? c.quantity : 0) - (c.seller == t ? c.quantity : 0)).sum();
        }

        int margin(int t) {
            int sum = 0;
            for (int h = 0; h < horizons.size(); h++) {
                sum += Math.abs(position(t, h)) * horizons.get(h)[2];
            }
            return sum;
        }

        int variation(int t) {
            int sum = 0;
            for (int h = 0; h < horizons.size(); h++) {
                sum += position(t, h) * (horizons.get(h)[1] - horizons.get(h)[0]);
            }
            return sum;
        }
    }

    /** How often something worth seeing has come, for the test to know that its runs are worth something. */
    int defaults;
    int takenOver;
    int severalTakenOver;
    int ties;
    int withoutTakers;
    int severalAtOnce;
    int fundPaid;

    private State s = new State();
    private final List<State> history = new ArrayList<>();
    private State saved;
    private String text = "";
    private String line = "";
    private int malformed = -1;
    private int failed = -1;

    private void keep(State state) {
        history.add(state);
        if (history.size() > 8) {
            history.remove(0);
        }
    }

    private void trader(int t) {
        if (t < 0 || t >= s.money.size()) {
            throw new IndexOutOfBoundsException();
        }
    }

    private void horizon(int h) {
        if (h < 0 || h >= s.horizons.size()) {
            throw new IndexOutOfBoundsException();
        }
    }

    private Contract contract(int c) {
        if (c < 0 || c >= s.contracts.size()) {
            throw new IndexOutOfBoundsException();
        }
        return s.contracts.get(c);
    }

    private static void range(int value, int least, int most) {
        if (value < least || value > most) {
            throw new IllegalArgumentException();
        }
    }

    private static void state(boolean holds) {
        if (!holds) {
            throw new IllegalStateException();
        }
    }

    private static void supported(boolean holds) {
        if (!holds) {
            throw new UnsupportedOperationException();
        }
    }

    public int addHorizon(int price, int range) {
        range(price, 1, 99);
        range(range, 1, 20);
        state(s.horizons.size() < 4);
        keep(s.copy());
        s.horizons.add(new int[] {price, price, range});
        return s.horizons.size() - 1;
    }

    public int addTrader(int money) {
        range(money, 0, 9999);
        state(s.money.size() < 6);
        keep(s.copy());
        s.money.add(money);
        s.called.add(false);
        s.fallen.add(false);
        s.in += money;
        return s.money.size() - 1;
    }

    public int trade(int buyer, int seller, int horizon, int quantity, int days) {
        trader(buyer);
        trader(seller);
        horizon(horizon);
        range(buyer == seller ? 1 : 0, 0, 0);
        range(quantity, 1, 20);
        range(days, 1, 9);
        state(s.contracts.size() < 20);
        state(s.sound(buyer) && s.sound(seller));
        State after = s.copy();
        Contract c = new Contract();
        c.buyer = buyer;
        c.seller = seller;
        c.horizon = horizon;
        c.quantity = quantity;
        c.end = s.day + days;
        after.contracts.add(c);
        supported(after.money.get(buyer) >= after.margin(buyer));
        supported(after.money.get(seller) >= after.margin(seller));
        keep(s);
        s = after;
        return s.contracts.size() - 1;
    }

    public int setQuote(int horizon, int quote) {
        horizon(horizon);
        range(quote, 1, 99);
        keep(s.copy());
        int before = s.horizons.get(horizon)[1];
        s.horizons.get(horizon)[1] = quote;
        return before;
    }

    public int dawn() {
        keep(s.copy());
        int[] variations = new int[s.money.size()];
        for (int t = 0; t < variations.length; t++) {
            variations[t] = s.variation(t);
        }
        for (int t = 0; t < variations.length; t++) {
            s.money.set(t, s.money.get(t) + variations[t]);
        }
        for (int[] horizon : s.horizons) {
            horizon[0] = horizon[1];
        }
        s.day++;
        s.contracts.removeIf(c -> c.end == s.day);
        List<Integer> falling = new ArrayList<>();
        for (int t = 0; t < variations.length; t++) {
            if (!s.fallen.get(t)) {
                boolean enough = s.money.get(t) >= s.margin(t);
                if (!enough && s.called.get(t)) {
                    falling.add(t);
                }
                s.called.set(t, !enough);
            }
        }
        for (int t : falling) {
            fall(t);
        }
        severalAtOnce += falling.size() > 1 ? 1 : 0;
        return falling.size();
    }

    private void fall(int t) {
        defaults++;
        List<Integer> needed = needed(t);
        List<List<Integer>> ways = ways(t);
        if (ways.isEmpty()) {
            withoutTakers++;
            s.contracts.removeIf(c -> c.buyer == t || c.seller == t);
        } else {
            takenOver += needed.isEmpty() ? 0 : 1;
            severalTakenOver += needed.size() > 1 ? 1 : 0;
            s = after(t, needed, best(t, ways));
        }
        int money = s.money.get(t);
        int paid = money >= 0 ? -money : Math.min(-money, s.fund);
        fundPaid += paid > 0 ? 1 : 0;
        s.fund -= paid;
        s.lost += Math.max(0, -money - paid);
        s.money.set(t, 0);
        s.called.set(t, false);
        s.fallen.set(t, true);
    }

    private List<Integer> needed(int t) {
        List<Integer> needed = new ArrayList<>();
        for (int h = 0; h < s.horizons.size(); h++) {
            if (s.position(t, h) != 0) {
                needed.add(h);
            }
        }
        return needed;
    }

    /** All ways, in no order that matters. */
    private List<List<Integer>> ways(int t) {
        List<List<Integer>> ways = new ArrayList<>();
        ways.add(new ArrayList<>());
        for (int i = needed(t).size(); i > 0; i--) {
            List<List<Integer>> longer = new ArrayList<>();
            for (int taker = s.money.size() - 1; taker >= 0; taker--) {
                for (List<Integer> way : ways) {
                    if (taker != t && s.sound(taker) && !way.contains(taker)) {
                        List<Integer> next = new ArrayList<>(way);
                        next.add(taker);
                        longer.add(next);
                    }
                }
            }
            ways = longer;
        }
        return ways;
    }

    private State after(int t, List<Integer> needed, List<Integer> takers) {
        State after = s.copy();
        for (int i = 0; i < takers.size(); i++) {
            for (Contract c : after.contracts) {
                if (c.horizon == needed.get(i)) {
                    c.buyer = c.buyer == t ? takers.get(i) : c.buyer;
                    c.seller = c.seller == t ? takers.get(i) : c.seller;
                }
            }
        }
        after.contracts.removeIf(c -> c.buyer == t || c.seller == t || c.buyer == c.seller);
        return after;
    }

    private int sum(int t, List<Integer> needed, List<Integer> takers) {
        State after = after(t, needed, takers);
        int sum = 0;
        for (int other = 0; other < after.money.size(); other++) {
            sum += other != t && after.sound(other) ? after.margin(other) : 0;
        }
        return sum;
    }

    private List<Integer> best(int t, List<List<Integer>> ways) {
        List<Integer> needed = needed(t);
        List<int[]> keys = new ArrayList<>();
        for (List<Integer> way : ways) {
            int[] key = new int[way.size() + 1];
            key[0] = sum(t, needed, way);
            for (int i = 0; i < way.size(); i++) {
                key[i + 1] = way.get(i);
            }
            keys.add(key);
        }
        keys.sort(java.util.Arrays::compare);
        ties += keys.size() > 1 && keys.get(0)[0] == keys.get(1)[0] ? 1 : 0;
        List<Integer> best = new ArrayList<>();
        for (int i = 1; i < keys.get(0).length; i++) {
            best.add(keys.get(0)[i]);
        }
        return best;
    }

    public int deposit(int trader, int amount) {
        trader(trader);
        range(amount, 1, 9999);
        state(!s.fallen.get(trader));
        keep(s.copy());
        s.money.set(trader, s.money.get(trader) + amount);
        s.in += amount;
        return s.money.get(trader);
    }

    public int withdraw(int trader, int amount) {
        take(trader, amount);
        s.out += amount;
        return s.money.get(trader);
    }

    public int contribute(int trader, int amount) {
        take(trader, amount);
        s.fund += amount;
        return s.fund;
    }

    private void take(int trader, int amount) {
        trader(trader);
        range(amount, 1, 9999);
        state(!s.fallen.get(trader));
        supported(s.money.get(trader) - amount >= s.margin(trader));
        keep(s.copy());
        s.money.set(trader, s.money.get(trader) - amount);
    }

    public int horizonCount() {
        return s.horizons.size();
    }

    public int priceOf(int horizon) {
        horizon(horizon);
        return s.horizons.get(horizon)[0];
    }

    public int quoteOf(int horizon) {
        horizon(horizon);
        return s.horizons.get(horizon)[1];
    }

    public int rangeOf(int horizon) {
        horizon(horizon);
        return s.horizons.get(horizon)[2];
    }

    public int traderCount() {
        return s.money.size();
    }

    public int moneyOf(int trader) {
        trader(trader);
        return s.money.get(trader);
    }

    public boolean isCalled(int trader) {
        trader(trader);
        return s.called.get(trader);
    }

    public boolean hasDefaulted(int trader) {
        trader(trader);
        return s.fallen.get(trader);
    }

    public int positionOf(int trader, int horizon) {
        trader(trader);
        horizon(horizon);
        return s.position(trader, horizon);
    }

    public int openQuantity(int horizon) {
        horizon(horizon);
        return s.contracts.stream().filter(c -> c.horizon == horizon).mapToInt(c -> c.quantity).sum();
    }

    public int contractCount() {
        return s.contracts.size();
    }

    public int buyerOf(int contract) {
        return contract(contract).buyer;
    }

    public int sellerOf(int contract) {
        return contract(contract).seller;
    }

    public int horizonOf(int contract) {
        return contract(contract).horizon;
    }

    public int quantityOf(int contract) {
        return contract(contract).quantity;
    }

    public int daysLeft(int contract) {
        return contract(contract).end - s.day;
    }

    public int marginOf(int trader) {
        trader(trader);
        return s.margin(trader);
    }

    public int marginByPositions(int trader) {
        return marginOf(trader);
    }

    public int variationOf(int trader) {
        trader(trader);
        return s.variation(trader);
    }

    public int payments() {
        List<Integer> open = new ArrayList<>();
        for (int t = 0; t < s.money.size(); t++) {
            if (s.variation(t) != 0) {
                open.add(s.variation(t));
            }
        }
        return open.size() - mostGroups(open);
    }

    /** The group of the first, in all ways, and the most groups of the rest. */
    private static int mostGroups(List<Integer> open) {
        int most = 0;
        for (int set = 1; set < 1 << open.size(); set += 2) {
            int sum = 0;
            List<Integer> rest = new ArrayList<>();
            for (int i = 0; i < open.size(); i++) {
                if ((set & 1 << i) != 0) {
                    sum += open.get(i);
                } else {
                    rest.add(open.get(i));
                }
            }
            if (sum == 0) {
                most = Math.max(most, 1 + mostGroups(rest));
            }
        }
        return most;
    }

    public int paymentsByGroups() {
        return payments();
    }

    public int leastMargins(int trader) {
        trader(trader);
        state(!s.fallen.get(trader));
        List<List<Integer>> ways = ways(trader);
        supported(!ways.isEmpty());
        return sum(trader, needed(trader), best(trader, ways));
    }

    public int leastMarginsBySets(int trader) {
        return leastMargins(trader);
    }

    public int takerOf(int trader, int horizon) {
        trader(trader);
        horizon(horizon);
        state(!s.fallen.get(trader));
        List<List<Integer>> ways = ways(trader);
        supported(!ways.isEmpty());
        int index = needed(trader).indexOf(horizon);
        if (index < 0) {
            throw new NoSuchElementException();
        }
        return best(trader, ways).get(index);
    }

    public int traderByMoney(int rank) {
        if (rank < 0 || rank >= s.money.size()) {
            throw new NoSuchElementException();
        }
        List<Integer> order = new ArrayList<>();
        for (int t = 0; t < s.money.size(); t++) {
            order.add(t);
        }
        order.sort(Comparator.comparing(t -> -s.money.get(t)));
        return order.get(rank);
    }

    public int fund() {
        return s.fund;
    }

    public int writtenOff() {
        return s.lost;
    }

    public long broughtIn() {
        return s.in;
    }

    public long withdrawn() {
        return s.out;
    }

    public int dayCount() {
        return s.day;
    }

    public double meanMargin() {
        double sum = 0;
        for (int t = 0; t < s.money.size(); t++) {
            sum += s.margin(t);
        }
        if (s.money.isEmpty()) {
            throw new ArithmeticException();
        }
        return sum / s.money.size();
    }

    public float soundShare() {
        float sound = 0;
        for (int t = 0; t < s.money.size(); t++) {
            sound += s.sound(t) ? 1 : 0;
        }
        if (s.money.isEmpty()) {
            throw new ArithmeticException();
        }
        return sound / s.money.size();
    }

    public int writeContract(int contract) {
        Contract c = contract(contract);
        line = c.buyer + "<" + c.seller + ":" + c.quantity + "h" + c.horizon + "+" + (c.end - s.day);
        return line.length();
    }

    public int writeTrader(int trader) {
        trader(trader);
        line = s.money.get(trader) + "/" + s.margin(trader) + (s.called.get(trader) ? "!" : "")
            + (s.fallen.get(trader) ? "x" : "");
        return line.length();
    }

    public char lineAt(int index) {
        if (index < 0 || index >= line.length()) {
            throw new IndexOutOfBoundsException();
        }
        return line.charAt(index);
    }

    public boolean isConsistent() {
        return true;
    }

    public int type(char character) {
        range(character, 32, 126);
        state(text.length() < 60);
        text += character;
        return text.length();
    }

    public int execute() {
        String all = text;
        text = "";
        if (!TEXT.matcher(all).matches()) {
            malformed = 0;
            while (malformed < all.length() && canGoOn(all.substring(0, malformed + 1))) {
                malformed++;
            }
            throw new IllegalArgumentException();
        }
        State before = s.copy();
        List<State> historyBefore = new ArrayList<>(history);
        String[] commands = all.split(";");
        for (int i = 0; i < commands.length; i++) {
            try {
                run(commands[i].split(" "));
            } catch (RuntimeException e) {
                s = before;
                history.clear();
                history.addAll(historyBefore);
                failed = i;
                throw new IllegalStateException();
            }
        }
        history.clear();
        history.addAll(historyBefore);
        keep(before);
        return commands.length;
    }

    private static boolean canGoOn(String start) {
        Matcher matcher = TEXT.matcher(start);
        return matcher.matches() || matcher.hitEnd();
    }

    private void run(String[] words) {
        int[] a = new int[6];
        for (int i = 1; i < words.length; i++) {
            a[i] = Integer.parseInt(words[i]);
        }
        switch (words[0]) {
            case "horizon" -> addHorizon(a[1], a[2]);
            case "trader" -> addTrader(a[1]);
            case "trade" -> trade(a[1], a[2], a[3], a[4], a[5]);
            case "quote" -> setQuote(a[1], a[2]);
            case "dawn" -> dawn();
            case "pay" -> deposit(a[1], a[2]);
            case "draw" -> withdraw(a[1], a[2]);
            default -> contribute(a[1], a[2]);
        }
    }

    public int errorPosition() {
        if (malformed < 0) {
            throw new NoSuchElementException();
        }
        return malformed;
    }

    public int failedCommand() {
        if (failed < 0) {
            throw new NoSuchElementException();
        }
        return failed;
    }

    public int undo() {
        state(!history.isEmpty());
        s = history.remove(history.size() - 1);
        return history.size();
    }

    public int save() {
        saved = s.copy();
        return s.contracts.size();
    }

    public int restore() {
        state(saved != null);
        s = saved.copy();
        history.clear();
        return s.contracts.size();
    }
}
