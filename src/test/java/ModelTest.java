/** Long runs of calls, the same ones in every test, on the exchange and on the model: every answer must be the same. */
public final class ModelTest {
    private static final int RUNS = 1500;
    private static final int CALLS = 512;
    /** The calls that ask for the whole state at the end of a run. */
    private static final int LAST_QUESTIONS = 150;
    private static final String[] QUESTIONS = {"horizonCount", "priceOf", "quoteOf", "rangeOf", "traderCount",
        "moneyOf", "isCalled", "hasDefaulted", "positionOf", "openQuantity", "contractCount", "buyerOf", "sellerOf",
        "horizonOf", "quantityOf", "daysLeft", "marginOf", "marginByPositions", "variationOf", "payments",
        "paymentsByGroups", "leastMargins", "leastMarginsBySets", "takerOf", "traderByMoney", "fund", "writtenOff",
        "broughtIn", "withdrawn", "dayCount", "meanMargin", "soundShare", "writeContract", "writeTrader", "lineAt",
        "isConsistent", "errorPosition", "failedCommand"};

    private final Both both = new Both();
    private final Model model = both.model;
    private final boolean wild;
    private long seed;

    private ModelTest(int run) {
        seed = run * 7919L + 17;
        wild = run % 3 == 0;
    }

    public static void main(String[] args) throws ReflectiveOperationException {
        int[] seen = new int[7];
        for (int run = 0; run < RUNS; run++) {
            ModelTest test = new ModelTest(run);
            test.run();
            Check.same("run " + run + " of " + test.both.size() + " calls", test.both.isWrong(), false);
            Model m = test.model;
            int[] more = {m.defaults, m.takenOver, m.severalTakenOver, m.ties, m.withoutTakers, m.severalAtOnce,
                m.fundPaid};
            for (int i = 0; i < seen.length; i++) {
                seen[i] += more[i];
            }
            if (test.both.isWrong()) {
                break;
            }
        }
        String[] names = {"defaults", "taken over", "several taken over", "ties", "without takers", "several at once",
            "fund paid"};
        for (int i = 0; i < seen.length; i++) {
            System.out.println("  " + names[i] + ": " + seen[i]);
            Check.same("the runs come to " + names[i], seen[i] > 50, true);
        }
        Check.end();
    }

    private int pick(int bound) {
        seed = seed * 6364136223846793005L + 1442695040888963407L;
        return (int) ((seed >>> 33) % bound);
    }

    private void run() throws ReflectiveOperationException {
        begin();
        while (both.size() < CALLS - LAST_QUESTIONS - 61 && !both.isWrong()) {
            step();
        }
        for (int left = LAST_QUESTIONS; left > 0 && !both.isWrong(); left--) {
            question();
        }
    }

    private void begin() throws ReflectiveOperationException {
        for (int i = wild ? pick(5) : 1 + pick(4); i > 0; i--) {
            both.call("addHorizon", 1 + pick(99), 1 + pick(pick(2) == 0 ? 20 : 3));
        }
        for (int i = wild ? pick(7) : 2 + pick(5); i > 0; i--) {
            both.call("addTrader", pick(3) == 0 ? pick(100) : pick(600));
        }
    }

    private void step() throws ReflectiveOperationException {
        int kind = pick(100);
        if (kind < 26) {
            int quantity = wild ? pick(23) - 1 : 1 + pick(12);
            int days = wild ? pick(11) : 1 + pick(9);
            both.call("trade", trader(), trader(), horizon(), quantity, days);
        } else if (kind < 34) {
            both.call("setQuote", horizon(), quote());
        } else if (kind < 46) {
            both.call("dawn");
        } else if (kind < 51) {
            both.call("deposit", trader(), amount());
        } else if (kind < 56) {
            both.call("withdraw", trader(), amount());
        } else if (kind < 59) {
            both.call("contribute", trader(), amount());
        } else if (kind < 63) {
            both.call(pick(2) == 0 ? "addTrader" : "addHorizon", pick(120), pick(22));
        } else if (kind < 68) {
            both.call("undo");
        } else if (kind < 70) {
            both.call(pick(3) == 0 ? "restore" : "save");
        } else if (kind < 74) {
            text();
        } else {
            question();
        }
    }

    private int trader() {
        return wild && pick(12) == 0 ? pick(9) - 2 : pick(Math.max(1, model.traderCount()));
    }

    private int horizon() {
        return wild && pick(12) == 0 ? pick(7) - 2 : pick(Math.max(1, model.horizonCount()));
    }

    /** Mostly near the present price, so that debts come slowly enough for deposits to matter. */
    private int quote() {
        if (wild && pick(10) == 0) {
            return pick(103) - 2;
        }
        int horizon = pick(Math.max(1, model.horizonCount()));
        int price = model.horizonCount() == 0 ? 50 : model.priceOf(horizon);
        return pick(4) == 0 ? 1 + pick(99) : Math.min(99, Math.max(1, price + pick(13) - 6));
    }

    private int amount() {
        return wild && pick(10) == 0 ? pick(2) * 10000 : 1 + pick(pick(2) == 0 ? 20 : 200);
    }

    private void text() throws ReflectiveOperationException {
        StringBuilder text = new StringBuilder();
        for (int i = pick(4); i >= 0; i--) {
            text.append(command()).append(i > 0 ? ";" : "");
        }
        if (pick(3) == 0 && text.length() > 0) {
            String signs = "0123456789 ;abdeghinopqrtuvwyz";
            char sign = signs.charAt(pick(signs.length()));
            int place = pick(text.length());
            switch (pick(3)) {
                case 0 -> text.insert(place, sign);
                case 1 -> text.setCharAt(place, sign);
                default -> text.setLength(place);
            }
        }
        for (int i = 0; i < text.length() && i < 60; i++) {
            both.call("type", (int) text.charAt(i));
        }
        both.call("execute");
    }

    private String command() {
        return switch (pick(10)) {
            case 0 -> "horizon " + pick(100) + " " + pick(22);
            case 1 -> "trader " + pick(1000);
            case 2, 3 -> "trade " + pick(6) + " " + pick(6) + " " + pick(4) + " " + pick(15) + " " + pick(10);
            case 4 -> "quote " + pick(4) + " " + pick(100);
            case 5, 6 -> "dawn";
            case 7 -> "pay " + pick(6) + " " + pick(300);
            case 8 -> "draw " + pick(6) + " " + pick(100);
            default -> "give " + pick(6) + " " + pick(50);
        };
    }

    private void question() throws ReflectiveOperationException {
        String name = QUESTIONS[pick(QUESTIONS.length)];
        switch (name) {
            case "priceOf", "quoteOf", "rangeOf", "openQuantity" -> both.call(name, pick(8) == 0 ? pick(8) - 2 : horizon());
            case "moneyOf", "isCalled", "hasDefaulted", "marginOf", "marginByPositions", "variationOf", "leastMargins",
                "leastMarginsBySets", "writeTrader", "traderByMoney" ->
                both.call(name, pick(8) == 0 ? pick(10) - 2 : trader());
            case "positionOf", "takerOf" -> both.call(name, trader(), horizon());
            case "buyerOf", "sellerOf", "horizonOf", "quantityOf", "daysLeft", "writeContract" ->
                both.call(name, pick(8) == 0 ? pick(24) - 2 : pick(Math.max(1, model.contractCount())));
            case "lineAt" -> both.call(name, pick(12) - 1);
            default -> both.call(name);
        }
    }
}
