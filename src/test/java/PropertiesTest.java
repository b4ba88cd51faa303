/** Promises 10 to 25: what horizons, traders, positions and contracts are asked for. */
public final class PropertiesTest {
    private static final int[] NOT_OF_TWO = {-1, 2, 3, 6, Integer.MIN_VALUE, Integer.MAX_VALUE};
    private static final int[] NOT_OF_THREE = {-1, 3, 4, 20, Integer.MIN_VALUE, Integer.MAX_VALUE};

    public static void main(String[] args) {
        horizons();
        traders();
        standing();
        positions();
        contracts();
        nothingYet();
        Check.end();
    }

    /** Two horizons, three traders and three contracts, at day 1. */
    private static HorizonExchange market() {
        HorizonExchange x = new HorizonExchange();
        x.addHorizon(50, 5);
        x.addHorizon(30, 2);
        x.addTrader(200);
        x.addTrader(100);
        x.addTrader(300);
        x.dawn();
        x.trade(0, 1, 0, 10, 3);
        x.trade(1, 2, 1, 5, 9);
        x.trade(2, 0, 0, 4, 1);
        return x;
    }

    private static void horizons() {
        HorizonExchange x = market();
        x.setQuote(1, 33);
        Check.same("10 horizons", x.horizonCount(), 2);
        Check.same("11 price", x.priceOf(0), 50);
        Check.same("11 price", x.priceOf(1), 30);
        Check.same("12 quote", x.quoteOf(0), 50);
        Check.same("12 quote", x.quoteOf(1), 33);
        Check.same("13 range", x.rangeOf(0), 5);
        Check.same("13 range", x.rangeOf(1), 2);
        Check.same("19 quantity", x.openQuantity(0), 14);
        Check.same("19 quantity", x.openQuantity(1), 5);
        for (int horizon : NOT_OF_TWO) {
            Check.index("11 " + horizon, () -> x.priceOf(horizon));
            Check.index("12 " + horizon, () -> x.quoteOf(horizon));
            Check.index("13 " + horizon, () -> x.rangeOf(horizon));
            Check.index("19 " + horizon, () -> x.openQuantity(horizon));
        }
        x.dawn();
        Check.same("11 price after a dawn", x.priceOf(1), 33);
        Check.same("19 quantity after a dawn", x.openQuantity(0), 10);
        x.addHorizon(1, 1);
        Check.same("10 one more", x.horizonCount(), 3);
        Check.same("19 none", x.openQuantity(2), 0);
    }

    private static void traders() {
        HorizonExchange x = market();
        Check.same("14 traders", x.traderCount(), 3);
        Check.same("15 money", x.moneyOf(0), 200);
        Check.same("15 money", x.moneyOf(1), 100);
        Check.same("15 money", x.moneyOf(2), 300);
        for (int trader : NOT_OF_THREE) {
            Check.index("15 " + trader, () -> x.moneyOf(trader));
            Check.index("16 " + trader, () -> x.isCalled(trader));
            Check.index("17 " + trader, () -> x.hasDefaulted(trader));
        }
        x.addTrader(0);
        Check.same("14 one more", x.traderCount(), 4);
        Check.same("15 no money", x.moneyOf(3), 0);
    }

    private static void standing() {
        HorizonExchange x = market();
        Check.same("16 sound", x.isCalled(1), false);
        Check.same("17 sound", x.hasDefaulted(1), false);
        x.setQuote(0, 70);
        x.dawn();
        Check.same("15 a debt", x.moneyOf(1), -100);
        Check.same("16 called", x.isCalled(1), true);
        Check.same("16 not the other", x.isCalled(0), false);
        Check.same("17 not yet", x.hasDefaulted(1), false);
        x.dawn();
        Check.same("16 not any more", x.isCalled(1), false);
        Check.same("17 defaulted", x.hasDefaulted(1), true);
        Check.same("17 not the other", x.hasDefaulted(0), false);
    }

    private static void positions() {
        HorizonExchange x = market();
        Check.same("18 bought and sold", x.positionOf(0, 0), 6);
        Check.same("18 sold", x.positionOf(1, 0), -10);
        Check.same("18 bought", x.positionOf(1, 1), 5);
        Check.same("18 bought", x.positionOf(2, 0), 4);
        Check.same("18 sold", x.positionOf(2, 1), -5);
        Check.same("18 none", x.positionOf(0, 1), 0);
        for (int trader : NOT_OF_THREE) {
            Check.index("18 trader " + trader, () -> x.positionOf(trader, 0));
        }
        for (int horizon : NOT_OF_TWO) {
            Check.index("18 horizon " + horizon, () -> x.positionOf(0, horizon));
        }
    }

    private static void contracts() {
        HorizonExchange x = market();
        Check.same("20 contracts", x.contractCount(), 3);
        int[][] want = {{0, 1, 0, 10, 3}, {1, 2, 1, 5, 9}, {2, 0, 0, 4, 1}};
        for (int contract = 0; contract < 3; contract++) {
            Check.same("21 of " + contract, x.buyerOf(contract), want[contract][0]);
            Check.same("22 of " + contract, x.sellerOf(contract), want[contract][1]);
            Check.same("23 of " + contract, x.horizonOf(contract), want[contract][2]);
            Check.same("24 of " + contract, x.quantityOf(contract), want[contract][3]);
            Check.same("25 of " + contract, x.daysLeft(contract), want[contract][4]);
        }
        for (int contract : NOT_OF_THREE) {
            Check.index("21 " + contract, () -> x.buyerOf(contract));
            Check.index("22 " + contract, () -> x.sellerOf(contract));
            Check.index("23 " + contract, () -> x.horizonOf(contract));
            Check.index("24 " + contract, () -> x.quantityOf(contract));
            Check.index("25 " + contract, () -> x.daysLeft(contract));
        }
        x.dawn();
        Check.same("20 one expired", x.contractCount(), 2);
        Check.same("25 a day later", x.daysLeft(0), 2);
        Check.same("25 a day later", x.daysLeft(1), 8);
        Check.index("25 expired", () -> x.daysLeft(2));
    }

    private static void nothingYet() {
        HorizonExchange x = new HorizonExchange();
        Check.index("11 none", () -> x.priceOf(0));
        Check.index("15 none", () -> x.moneyOf(0));
        Check.index("18 none", () -> x.positionOf(0, 0));
        Check.index("21 none", () -> x.buyerOf(0));
        x.addTrader(1);
        Check.index("18 no horizon", () -> x.positionOf(0, 0));
        x.addHorizon(1, 1);
        Check.same("18 nothing", x.positionOf(0, 0), 0);
        Check.index("18 no second trader", () -> x.positionOf(1, 0));
        HorizonExchange y = new HorizonExchange();
        y.addHorizon(1, 1);
        Check.index("18 no trader", () -> y.positionOf(0, 0));
    }
}
