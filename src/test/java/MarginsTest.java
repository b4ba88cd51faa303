/** Promises 26 to 34: margins, variations, payments, takers and the order of money. */
public final class MarginsTest {
    private static final int[] NOT_OF_SIX = {-1, 6, 7, Integer.MIN_VALUE, Integer.MAX_VALUE};

    public static void main(String[] args) {
        margins();
        variations();
        paymentsOfPairs();
        paymentsOfSix();
        leastMargins();
        leastMarginsAfterEnds();
        leastMarginsThrow();
        takers();
        takersThrow();
        traderByMoney();
        Check.end();
    }

    private static HorizonExchange market(int... ranges) {
        HorizonExchange x = new HorizonExchange();
        for (int range : ranges) {
            x.addHorizon(50, range);
        }
        for (int trader = 0; trader < 6; trader++) {
            x.addTrader(1000);
        }
        return x;
    }

    private static void margins() {
        HorizonExchange x = market(5, 2, 20, 1);
        Check.same("26 none", x.marginOf(0), 0);
        Check.same("27 none", x.marginByPositions(0), 0);
        x.trade(0, 1, 0, 10, 9);
        x.trade(1, 0, 1, 7, 9);
        x.trade(0, 2, 2, 20, 9);
        x.trade(2, 0, 2, 5, 9);
        x.trade(0, 1, 3, 3, 9);
        int[] want = {50 + 14 + 300 + 3, 50 + 14 + 3, 300, 0};
        for (int trader = 0; trader < 4; trader++) {
            Check.same("26 of " + trader, x.marginOf(trader), want[trader]);
            Check.same("27 of " + trader, x.marginByPositions(trader), want[trader]);
        }
        x.trade(4, 5, 0, 2, 9);
        x.trade(4, 5, 3, 3, 9);
        Check.same("26 bought alone", x.marginOf(4), 13);
        Check.same("27 bought alone", x.marginByPositions(4), 13);
        Check.same("26 sold alone", x.marginOf(5), 13);
        Check.same("27 sold alone", x.marginByPositions(5), 13);
        for (int trader : NOT_OF_SIX) {
            Check.index("26 " + trader, () -> x.marginOf(trader));
            Check.index("27 " + trader, () -> x.marginByPositions(trader));
            Check.index("28 " + trader, () -> x.variationOf(trader));
        }
        HorizonExchange y = new HorizonExchange();
        Check.index("26 nobody", () -> y.marginOf(0));
        y.addTrader(1);
        Check.same("26 no horizons", y.marginOf(0), 0);
        Check.same("27 no horizons", y.marginByPositions(0), 0);
        Check.same("28 no horizons", y.variationOf(0), 0);
    }

    private static void variations() {
        HorizonExchange x = market(1, 1);
        x.trade(0, 1, 0, 10, 9);
        x.trade(1, 2, 1, 4, 9);
        Check.same("28 no change", x.variationOf(0), 0);
        x.setQuote(0, 53);
        x.setQuote(1, 40);
        Check.same("28 a buyer", x.variationOf(0), 30);
        Check.same("28 both", x.variationOf(1), -30 - 40);
        Check.same("28 a seller", x.variationOf(2), 40);
        Check.same("28 nothing", x.variationOf(3), 0);
        x.setQuote(0, 49);
        Check.same("28 a new quote", x.variationOf(0), -10);
        x.dawn();
        Check.same("28 after the dawn", x.variationOf(0), 0);
    }

    private static void paymentsOfPairs() {
        HorizonExchange x = market(1, 1, 1);
        Check.same("29 none", x.payments(), 0);
        Check.same("30 none", x.paymentsByGroups(), 0);
        x.trade(0, 1, 0, 10, 9);
        Check.same("29 no variation", x.payments(), 0);
        x.setQuote(0, 51);
        Check.same("29 one pair", x.payments(), 1);
        Check.same("30 one pair", x.paymentsByGroups(), 1);
        x.trade(2, 3, 0, 7, 9);
        Check.same("29 two pairs", x.payments(), 2);
        Check.same("30 two pairs", x.paymentsByGroups(), 2);
        x.trade(4, 5, 0, 10, 9);
        Check.same("29 three pairs", x.payments(), 3);
        Check.same("30 three pairs", x.paymentsByGroups(), 3);
        x.trade(1, 2, 0, 1, 9);
        Check.same("29 a group of four and a pair", x.payments(), 4);
        Check.same("30 a group of four and a pair", x.paymentsByGroups(), 4);
        HorizonExchange z = market(1);
        z.trade(0, 1, 0, 1, 9);
        z.setQuote(0, 51);
        Check.same("30 asked first, for one coin", z.paymentsByGroups(), 1);
        z.setQuote(0, 49);
        Check.same("29 for one coin", z.payments(), 1);
        HorizonExchange y = new HorizonExchange();
        Check.same("29 nobody", y.payments(), 0);
        Check.same("30 nobody", y.paymentsByGroups(), 0);
    }

    /** The variations are 5, 4, -9, 7, -4, -3 : pairs are not enough to see, and a greedy pairing goes wrong. */
    private static void paymentsOfSix() {
        HorizonExchange x = market(1);
        x.trade(0, 2, 0, 5, 9);
        x.trade(1, 2, 0, 4, 9);
        x.trade(3, 4, 0, 4, 9);
        x.trade(3, 5, 0, 3, 9);
        x.setQuote(0, 51);
        Check.same("29 two groups of three", x.payments(), 4);
        Check.same("30 two groups of three", x.paymentsByGroups(), 4);
        x.trade(2, 0, 0, 1, 9);
        Check.same("29 4 4 -8 7 -4 -3", x.payments(), 4);
        x.trade(5, 3, 0, 3, 9);
        Check.same("29 4 4 -8 4 -4 0", x.payments(), 3);
        Check.same("30 4 4 -8 4 -4 0", x.paymentsByGroups(), 3);
        x.trade(5, 4, 0, 1, 9);
        Check.same("29 4 4 -8 4 -5 1", x.payments(), 4);
        Check.same("30 4 4 -8 4 -5 1", x.paymentsByGroups(), 4);
        x.trade(1, 4, 0, 2, 9);
        Check.same("29 4 6 -8 4 -7 1", x.payments(), 4);
        Check.same("30 4 6 -8 4 -7 1", x.paymentsByGroups(), 4);
        x.trade(0, 4, 0, 10, 9);
        Check.same("29 14 6 -8 4 -17 1", x.payments(), 5);
        Check.same("30 14 6 -8 4 -17 1", x.paymentsByGroups(), 5);
    }

    private static void leastMargins() {
        HorizonExchange x = market(3, 4, 1);
        Check.same("31 no positions", x.leastMargins(0), 0);
        Check.same("32 no positions", x.leastMarginsBySets(0), 0);
        x.trade(2, 0, 0, 5, 9);
        x.trade(1, 2, 1, 3, 9);
        x.trade(2, 3, 2, 10, 9);
        x.trade(4, 0, 0, 6, 9);
        Check.same("31 three go back", x.leastMargins(2), 36);
        Check.same("32 three go back", x.leastMarginsBySets(2), 36);
        Check.same("31 one goes back in part", x.leastMargins(0), 12 + 37 + 10 + 15);
        Check.same("32 one goes back in part", x.leastMarginsBySets(0), 12 + 37 + 10 + 15);
        Check.same("31 asks alone", x.contractCount(), 4);
        Check.same("31 the state stays", x.positionOf(2, 0), 5);
    }

    private static void leastMarginsAfterEnds() {
        HorizonExchange x = market(5, 1);
        x.trade(0, 1, 0, 4, 9);
        x.trade(2, 0, 0, 4, 9);
        x.trade(1, 2, 1, 7, 9);
        x.trade(0, 3, 1, 10, 9);
        Check.same("31 without the contracts that end", x.leastMargins(0), 7 + 7);
        Check.same("32 without the contracts that end", x.leastMarginsBySets(0), 7 + 7);
    }

    private static void leastMarginsThrow() {
        HorizonExchange x = market(5, 1);
        for (int trader : NOT_OF_SIX) {
            Check.index("31 " + trader, () -> x.leastMargins(trader));
            Check.index("32 " + trader, () -> x.leastMarginsBySets(trader));
        }
        HorizonExchange y = few();
        Check.unsupported("31 one for two positions", () -> y.leastMargins(0));
        Check.unsupported("32 one for two positions", () -> y.leastMarginsBySets(0));
        y.addTrader(0);
        Check.same("31 two for two", y.leastMargins(0), 100);
        Check.same("32 two for two", y.leastMarginsBySets(0), 100);
        y.setQuote(0, 1);
        y.dawn();
        Check.unsupported("31 one is called", () -> y.leastMargins(1));
        Check.same("31 of the called one", y.leastMargins(0), 100);
        y.dawn();
        Check.same("31 defaulted", y.hasDefaulted(0), true);
        Check.state("31 defaulted", () -> y.leastMargins(0));
        Check.state("32 defaulted", () -> y.leastMarginsBySets(0));
    }

    /** Two horizons, and two traders with a position in each. */
    private static HorizonExchange few() {
        HorizonExchange x = new HorizonExchange();
        x.addHorizon(50, 5);
        x.addHorizon(50, 5);
        x.addTrader(100);
        x.addTrader(1000);
        x.trade(0, 1, 0, 10, 9);
        x.trade(0, 1, 1, 10, 9);
        return x;
    }

    private static void takers() {
        HorizonExchange x = market(3, 4, 1);
        x.trade(2, 0, 0, 5, 9);
        x.trade(1, 2, 1, 3, 9);
        x.trade(2, 3, 2, 10, 9);
        x.trade(4, 0, 0, 6, 9);
        Check.same("33 the one opposite", x.takerOf(2, 0), 0);
        Check.same("33 the one opposite", x.takerOf(2, 1), 1);
        Check.same("33 the one opposite", x.takerOf(2, 2), 3);
        HorizonExchange z = market(3, 4);
        z.trade(2, 0, 0, 5, 9);
        z.trade(2, 0, 1, 5, 9);
        Check.same("33 trader 0 is best for both", z.takerOf(2, 0) + " " + z.takerOf(2, 1), "1 0");
        Check.same("31 trader 0 is best for both", z.leastMargins(2), 15 + 15);
        Check.same("32 trader 0 is best for both", z.leastMarginsBySets(2), 15 + 15);
        HorizonExchange y = market(5, 5);
        y.trade(5, 4, 0, 3, 9);
        y.trade(5, 4, 1, 3, 9);
        Check.same("33 one may take one alone", y.takerOf(5, 0) + " " + y.takerOf(5, 1), "0 4");
        Check.same("33 of the other", y.takerOf(4, 0) + " " + y.takerOf(4, 1), "0 5");
        Check.same("31 one may take one alone", y.leastMargins(5), 30);
    }

    private static void takersThrow() {
        HorizonExchange x = market(5, 1);
        for (int trader : NOT_OF_SIX) {
            Check.index("33 " + trader, () -> x.takerOf(trader, 0));
        }
        for (int horizon : new int[] {-1, 2, Integer.MIN_VALUE, Integer.MAX_VALUE}) {
            Check.index("33 horizon " + horizon, () -> x.takerOf(0, horizon));
        }
        Check.noElement("33 no position", () -> x.takerOf(0, 0));
        x.trade(0, 1, 0, 1, 9);
        Check.noElement("33 no position there", () -> x.takerOf(0, 1));
        Check.same("33 a position", x.takerOf(0, 0), 1);
        HorizonExchange y = few();
        y.addHorizon(50, 5);
        Check.unsupported("33 one for two", () -> y.takerOf(0, 0));
        Check.unsupported("33 one for two comes before no position", () -> y.takerOf(0, 2));
        y.setQuote(0, 1);
        y.dawn();
        y.dawn();
        Check.state("33 defaulted", () -> y.takerOf(0, 0));
        Check.index("33 defaulted, no horizon", () -> y.takerOf(0, 3));
    }

    private static void traderByMoney() {
        HorizonExchange x = new HorizonExchange();
        Check.noElement("34 nobody", () -> x.traderByMoney(0));
        for (int money : new int[] {5, 9, 5, 9999, 9, 0}) {
            x.addTrader(money);
        }
        int[] want = {3, 1, 4, 0, 2, 5};
        for (int rank = 0; rank < 6; rank++) {
            Check.same("34 " + rank, x.traderByMoney(rank), want[rank]);
        }
        for (int rank : NOT_OF_SIX) {
            Check.noElement("34 " + rank, () -> x.traderByMoney(rank));
        }
        x.deposit(5, 9999);
        Check.same("34 the first with as much", x.traderByMoney(0), 3);
        Check.same("34 the second with as much", x.traderByMoney(1), 5);
        x.deposit(5, 1);
        Check.same("34 the first now", x.traderByMoney(0), 5);
    }
}
