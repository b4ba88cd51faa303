/** Promises 1 to 9: a new object, and horizons, traders, contracts, quotes, dawns and money. */
public final class ModificationsTest {
    public static void main(String[] args) {
        newObject();
        addHorizon();
        addTrader();
        tradeAnswers();
        tradeThrows();
        tradeMargins();
        setQuote();
        dawnSettles();
        dawnEndsContracts();
        dawnCalls();
        dawnFindsAllBeforeDefaults();
        defaultTakesOver();
        defaultEndsContracts();
        defaultWithoutTakers();
        defaultWithoutPositions();
        defaultTies();
        defaultUsesNoCalledTaker();
        defaultsInOrder();
        defaultMoney();
        fullExchange();
        deposit();
        withdraw();
        contribute();
        Check.end();
    }

    /** One horizon (50, range 5) and traders with 100 coins each. */
    private static HorizonExchange market(int traders) {
        HorizonExchange x = new HorizonExchange();
        x.addHorizon(50, 5);
        for (int trader = 0; trader < traders; trader++) {
            x.addTrader(100);
        }
        return x;
    }

    private static void newObject() {
        HorizonExchange x = new HorizonExchange();
        Check.same("1 horizons", x.horizonCount(), 0);
        Check.same("1 traders", x.traderCount(), 0);
        Check.same("1 contracts", x.contractCount(), 0);
        Check.same("1 fund", x.fund(), 0);
        Check.same("1 day", x.dayCount(), 0);
        Check.same("1 written off", x.writtenOff(), 0);
        Check.same("1 brought in", x.broughtIn(), 0L);
        Check.same("1 withdrawn", x.withdrawn(), 0L);
        Check.state("1 nothing to undo", x::undo);
        Check.state("1 no snapshot", x::restore);
        Check.index("1 empty line", () -> x.lineAt(0));
        Check.same("1 empty buffer", x.type('d'), 1);
        HorizonExchange other = new HorizonExchange();
        x.addTrader(5);
        Check.same("1 objects share nothing", other.traderCount(), 0);
    }

    private static void addHorizon() {
        HorizonExchange x = new HorizonExchange();
        int[][] wrong = {{0, 5}, {100, 5}, {50, 0}, {50, 21}, {-1, 5}, {50, -1}, {0, 0},
            {Integer.MIN_VALUE, 5}, {Integer.MAX_VALUE, 5}, {5, Integer.MIN_VALUE}, {5, Integer.MAX_VALUE}};
        for (int[] pair : wrong) {
            Check.argument("2 " + pair[0] + " " + pair[1], () -> x.addHorizon(pair[0], pair[1]));
        }
        Check.same("2 nothing added", x.horizonCount(), 0);
        Check.same("2 least", x.addHorizon(1, 1), 0);
        Check.same("2 most", x.addHorizon(99, 20), 1);
        Check.same("2 third", x.addHorizon(1, 20), 2);
        Check.same("2 fourth", x.addHorizon(99, 1), 3);
        Check.same("2 price", x.priceOf(1), 99);
        Check.same("2 quote", x.quoteOf(1), 99);
        Check.same("2 range", x.rangeOf(1), 20);
        Check.state("2 a fifth", () -> x.addHorizon(50, 5));
        Check.argument("2 a wrong fifth", () -> x.addHorizon(0, 5));
        Check.argument("2 another wrong fifth", () -> x.addHorizon(50, 21));
        Check.same("2 four", x.horizonCount(), 4);
    }

    private static void addTrader() {
        HorizonExchange x = new HorizonExchange();
        for (int money : new int[] {-1, 10000, Integer.MIN_VALUE, Integer.MAX_VALUE}) {
            Check.argument("3 " + money, () -> x.addTrader(money));
        }
        Check.same("3 nothing added", x.traderCount(), 0);
        Check.same("3 least", x.addTrader(0), 0);
        Check.same("3 most", x.addTrader(9999), 1);
        for (int trader = 2; trader < 6; trader++) {
            Check.same("3 number", x.addTrader(trader), trader);
        }
        Check.same("3 money", x.moneyOf(1), 9999);
        Check.same("3 money", x.moneyOf(5), 5);
        Check.same("3 not called", x.isCalled(0), false);
        Check.same("3 not defaulted", x.hasDefaulted(0), false);
        Check.same("3 brought in", x.broughtIn(), 9999L + 2 + 3 + 4 + 5);
        Check.state("3 a seventh", () -> x.addTrader(1));
        Check.argument("3 a wrong seventh", () -> x.addTrader(-1));
        Check.same("3 six", x.traderCount(), 6);
        Check.same("3 brought in by six", x.broughtIn(), 9999L + 2 + 3 + 4 + 5);
    }

    private static void tradeAnswers() {
        HorizonExchange x = market(3);
        x.dawn();
        Check.same("4 first", x.trade(0, 1, 0, 20, 9), 0);
        Check.same("4 second", x.trade(2, 0, 0, 1, 1), 1);
        Check.same("4 buyer", x.buyerOf(1), 2);
        Check.same("4 seller", x.sellerOf(1), 0);
        Check.same("4 horizon", x.horizonOf(1), 0);
        Check.same("4 quantity", x.quantityOf(1), 1);
        Check.same("4 days", x.daysLeft(1), 1);
        Check.same("4 days of the first", x.daysLeft(0), 9);
        Check.same("4 money stays", x.moneyOf(0), 100);
        Check.same("4 position", x.positionOf(0, 0), 19);
        for (int contract = 2; contract < 20; contract++) {
            int buyer = 1 + contract % 2;
            Check.same("4 number", x.trade(buyer, 3 - buyer, 0, 1, 1 + contract % 9), contract);
        }
        Check.state("4 a 21st", () -> x.trade(2, 1, 0, 1, 1));
        Check.argument("4 a wrong 21st", () -> x.trade(2, 1, 0, 1, 0));
        Check.state("4 full comes before money", () -> x.trade(0, 1, 0, 20, 1));
        Check.same("4 twenty", x.contractCount(), 20);
    }

    private static void tradeThrows() {
        HorizonExchange x = market(2);
        int[][] missing = {{2, 0, 0, 1, 1}, {0, 2, 0, 1, 1}, {-1, 0, 0, 1, 1}, {0, -1, 0, 1, 1}, {0, 1, 1, 1, 1},
            {0, 1, -1, 1, 1}, {2, 2, 0, 1, 1}, {0, 2, 0, 0, 0}, {0, 0, 1, 0, 0}, {Integer.MAX_VALUE, 0, 0, 1, 1},
            {0, Integer.MIN_VALUE, 0, 1, 1}};
        for (int[] a : missing) {
            Check.index("4 missing", () -> x.trade(a[0], a[1], a[2], a[3], a[4]));
        }
        int[][] wrong = {{0, 0, 0, 1, 1}, {1, 1, 0, 1, 1}, {0, 1, 0, 0, 1}, {0, 1, 0, 21, 1}, {0, 1, 0, 1, 0},
            {0, 1, 0, 1, 10}, {0, 1, 0, -1, 1}, {0, 1, 0, 1, -1}, {0, 1, 0, Integer.MIN_VALUE, 1},
            {0, 1, 0, 1, Integer.MAX_VALUE}};
        for (int[] a : wrong) {
            Check.argument("4 wrong", () -> x.trade(a[0], a[1], a[2], a[3], a[4]));
        }
        x.trade(0, 1, 0, 20, 9);
        x.setQuote(0, 49);
        x.dawn();
        Check.same("4 called", x.isCalled(0), true);
        Check.state("4 a called buyer", () -> x.trade(0, 1, 0, 1, 1));
        Check.state("4 a called seller", () -> x.trade(1, 0, 0, 1, 1));
        x.deposit(0, 9999);
        Check.state("4 a rich called buyer", () -> x.trade(0, 1, 0, 1, 1));
        Check.argument("4 a called buyer, wrong", () -> x.trade(0, 1, 0, 21, 1));
        x.setQuote(0, 1);
        x.dawn();
        Check.same("4 sound again", x.isCalled(0), false);
        x.withdraw(0, 9000);
        x.setQuote(0, 99);
        x.dawn();
        x.dawn();
        Check.same("4 defaulted", x.hasDefaulted(1), true);
        Check.state("4 a defaulted seller", () -> x.trade(0, 1, 0, 1, 1));
        Check.state("4 a defaulted buyer", () -> x.trade(1, 0, 0, 1, 1));
        Check.same("4 no contract", x.contractCount(), 0);
    }

    private static void tradeMargins() {
        HorizonExchange x = new HorizonExchange();
        x.addHorizon(50, 5);
        x.addHorizon(50, 3);
        x.addTrader(20);
        x.addTrader(100);
        Check.unsupported("4 a poor buyer", () -> x.trade(0, 1, 0, 5, 1));
        Check.unsupported("4 a poor seller", () -> x.trade(1, 0, 0, 5, 1));
        Check.same("4 just enough", x.trade(0, 1, 0, 4, 1), 0);
        Check.unsupported("4 nothing left", () -> x.trade(0, 1, 1, 1, 1));
        Check.unsupported("4 nothing left to sell", () -> x.trade(1, 0, 1, 1, 1));
        Check.same("4 selling what one has", x.trade(1, 0, 0, 8, 1), 1);
        Check.same("4 position", x.positionOf(0, 0), -4);
        Check.unsupported("4 one more", () -> x.trade(1, 0, 0, 1, 1));
        Check.same("4 back", x.trade(0, 1, 0, 3, 1), 2);
        Check.same("4 the other horizon", x.trade(0, 1, 1, 5, 1), 3);
        Check.same("4 margin", x.marginOf(0), 20);
        Check.unsupported("4 full", () -> x.trade(0, 1, 1, 1, 1));
        Check.same("4 four", x.contractCount(), 4);
    }

    private static void setQuote() {
        HorizonExchange x = market(0);
        for (int horizon : new int[] {-1, 1, Integer.MIN_VALUE, Integer.MAX_VALUE}) {
            Check.index("5 " + horizon, () -> x.setQuote(horizon, 50));
        }
        Check.index("5 no horizon, wrong quote", () -> x.setQuote(1, 0));
        for (int quote : new int[] {0, 100, -1, Integer.MIN_VALUE, Integer.MAX_VALUE}) {
            Check.argument("5 " + quote, () -> x.setQuote(0, quote));
        }
        Check.same("5 least", x.setQuote(0, 1), 50);
        Check.same("5 most", x.setQuote(0, 99), 1);
        Check.same("5 the same", x.setQuote(0, 99), 99);
        Check.same("5 quote", x.quoteOf(0), 99);
        Check.same("5 price stays", x.priceOf(0), 50);
        x.dawn();
        Check.same("5 price from dawn on", x.priceOf(0), 99);
        Check.same("5 quote stays", x.quoteOf(0), 99);
    }

    private static void dawnSettles() {
        HorizonExchange x = market(3);
        x.addHorizon(20, 1);
        x.trade(0, 1, 0, 3, 9);
        x.trade(2, 0, 1, 4, 9);
        x.setQuote(0, 60);
        x.setQuote(1, 15);
        Check.same("6 nobody defaults", x.dawn(), 0);
        Check.same("6 buyer gains, seller gains", x.moneyOf(0), 150);
        Check.same("6 seller pays", x.moneyOf(1), 70);
        Check.same("6 buyer pays", x.moneyOf(2), 80);
        Check.same("6 price", x.priceOf(0), 60);
        Check.same("6 price", x.priceOf(1), 15);
        Check.same("6 day", x.dayCount(), 1);
        x.dawn();
        Check.same("6 no variation", x.moneyOf(0), 150);
        Check.same("6 an empty exchange", new HorizonExchange().dawn(), 0);
    }

    private static void dawnEndsContracts() {
        HorizonExchange x = market(2);
        x.trade(0, 1, 0, 1, 2);
        x.trade(0, 1, 0, 2, 1);
        x.trade(0, 1, 0, 3, 3);
        x.trade(0, 1, 0, 4, 1);
        x.setQuote(0, 51);
        x.dawn();
        Check.same("6 the last variation of those that end", x.moneyOf(0), 110);
        Check.same("6 two ended", x.contractCount(), 2);
        Check.same("6 numbers decrease", x.quantityOf(0), 1);
        Check.same("6 numbers decrease", x.quantityOf(1), 3);
        Check.same("6 days left", x.daysLeft(1), 2);
        x.trade(1, 0, 0, 5, 9);
        x.dawn();
        Check.same("6 one ended", x.contractCount(), 2);
        Check.same("6 its buyer", x.buyerOf(1), 1);
        Check.same("6 its days", x.daysLeft(1), 8);
        for (int day = 0; day < 8; day++) {
            x.dawn();
        }
        Check.same("6 all ended", x.contractCount(), 0);
    }

    private static void dawnCalls() {
        HorizonExchange x = market(2);
        x.trade(0, 1, 0, 10, 9);
        x.setQuote(0, 55);
        Check.same("6 no default", x.dawn(), 0);
        Check.same("6 enough is enough", x.isCalled(1), false);
        x.setQuote(0, 54);
        x.dawn();
        x.setQuote(0, 56);
        x.dawn();
        Check.same("6 one coin less", x.moneyOf(1), 40);
        Check.same("6 is called", x.isCalled(1), true);
        x.deposit(1, 10);
        Check.same("6 a deposit ends no call", x.isCalled(1), true);
        Check.same("6 the dawn does", x.dawn(), 0);
        Check.same("6 it did", x.isCalled(1), false);
        x.withdraw(0, x.moneyOf(0) - 50);
        x.setQuote(0, 55);
        x.dawn();
        Check.same("6 the other", x.isCalled(0), true);
        x.setQuote(0, 56);
        Check.same("6 a variation ends it", x.dawn(), 0);
        Check.same("6 it ended", x.isCalled(0), false);
        HorizonExchange y = market(2);
        y.trade(0, 1, 0, 20, 2);
        y.setQuote(0, 51);
        y.dawn();
        Check.same("6 called", y.isCalled(1), true);
        Check.same("6 an end of a contract ends it", y.dawn(), 0);
        Check.same("6 it ended", y.isCalled(1), false);
        HorizonExchange z = market(2);
        z.trade(0, 1, 0, 10, 1);
        z.setQuote(0, 99);
        z.dawn();
        Check.same("6 a debt without a contract", z.moneyOf(1), -390);
        Check.same("6 is called for", z.isCalled(1), true);
        Check.same("6 and defaults", z.dawn(), 1);
        Check.same("6 written off", z.writtenOff(), 390);
    }

    /** The default of trader 0 ends the contract for which trader 1 has too little money; it is called all the same. */
    private static void dawnFindsAllBeforeDefaults() {
        HorizonExchange x = market(2);
        x.trade(1, 0, 0, 20, 9);
        x.setQuote(0, 52);
        x.dawn();
        Check.same("6 the seller is called", x.isCalled(0), true);
        x.withdraw(1, 40);
        x.setQuote(0, 51);
        Check.same("6 still below its margin", x.dawn(), 1);
        Check.same("6 defaulted", x.hasDefaulted(0), true);
        Check.same("6 its contract ended", x.contractCount(), 0);
        Check.same("6 called before the contract ended", x.isCalled(1), true);
        Check.same("6 without a margin", x.marginOf(1), 0);
        Check.same("6 the next dawn", x.dawn(), 0);
        Check.same("6 sound again", x.isCalled(1), false);
    }

    /** Three positions of trader 2 go to those whose margins they lower, as the best of all ways. */
    private static void defaultTakesOver() {
        HorizonExchange x = new HorizonExchange();
        x.addHorizon(10, 3);
        x.addHorizon(20, 4);
        x.addHorizon(30, 1);
        for (int money : new int[] {500, 500, 60, 500, 500}) {
            x.addTrader(money);
        }
        x.trade(2, 0, 0, 5, 9);
        x.trade(1, 2, 1, 3, 8);
        x.trade(2, 3, 2, 10, 7);
        x.trade(4, 0, 0, 6, 6);
        x.trade(2, 4, 0, 2, 5);
        x.setQuote(2, 26);
        x.dawn();
        Check.same("6 called", x.isCalled(2), true);
        Check.same("6 takers", x.takerOf(2, 0) + " " + x.takerOf(2, 1) + " " + x.takerOf(2, 2), "0 1 3");
        Check.same("6 defaults", x.dawn(), 1);
        Check.same("6 contracts with themselves ended", x.contractCount(), 2);
        Check.same("6 order stays", x.quantityOf(0) + " " + x.quantityOf(1), "6 2");
        Check.same("6 the taker is the buyer now", x.buyerOf(1), 0);
        Check.same("6 the seller stays", x.sellerOf(1), 4);
        Check.same("6 days go on", x.daysLeft(1), 3);
        Check.same("6 position", x.positionOf(0, 0), -4);
        Check.same("6 position", x.positionOf(4, 0), 4);
        Check.same("6 no position", x.positionOf(2, 0), 0);
        Check.same("6 money went to the fund", x.fund(), 20);
        Check.same("6 its money", x.moneyOf(2), 0);
        Check.same("6 not called", x.isCalled(2), false);
        Check.same("6 defaulted", x.hasDefaulted(2), true);
        Check.same("6 consistent", x.isConsistent(), true);
    }

    /** On horizon 0 trader 0 bought as much as it sold: those contracts end, and no margin counts them. */
    private static void defaultEndsContracts() {
        HorizonExchange x = new HorizonExchange();
        x.addHorizon(50, 5);
        x.addHorizon(50, 1);
        x.addTrader(40);
        for (int trader = 1; trader < 4; trader++) {
            x.addTrader(1000);
        }
        x.trade(0, 1, 0, 4, 9);
        x.trade(2, 0, 0, 4, 9);
        x.trade(1, 2, 1, 7, 9);
        x.trade(0, 3, 1, 10, 9);
        x.trade(3, 2, 0, 2, 9);
        x.setQuote(1, 46);
        x.dawn();
        Check.same("6 called", x.isCalled(0), true);
        Check.same("6 least", x.leastMargins(0), 34);
        Check.same("6 by sets", x.leastMarginsBySets(0), 34);
        Check.same("6 the taker", x.takerOf(0, 1), 3);
        Check.noElement("6 no taker", () -> x.takerOf(0, 0));
        Check.same("6 a default", x.dawn(), 1);
        Check.same("6 what is left", x.contractCount(), 2);
        Check.same("6 what is left", x.quantityOf(0) + " " + x.quantityOf(1), "7 2");
        Check.same("6 positions", x.positionOf(1, 0) + " " + x.positionOf(2, 0), "0 -2");
        Check.same("6 margins", x.marginOf(1) + x.marginOf(2) + x.marginOf(3), 34);
    }

    private static void defaultWithoutTakers() {
        HorizonExchange x = new HorizonExchange();
        x.addHorizon(50, 5);
        x.addHorizon(50, 5);
        x.addTrader(100);
        x.addTrader(1000);
        x.trade(0, 1, 0, 10, 9);
        x.trade(0, 1, 1, 10, 9);
        x.setQuote(0, 45);
        x.dawn();
        Check.unsupported("6 one for two", () -> x.leastMargins(0));
        Check.same("6 a default", x.dawn(), 1);
        Check.same("6 all contracts ended", x.contractCount(), 0);
        Check.same("6 the other has none", x.positionOf(1, 0), 0);
        Check.same("6 fund", x.fund(), 50);
    }

    /** Trader 0 has bought as much as it has sold, and has a debt from a contract that has ended. */
    private static void defaultWithoutPositions() {
        HorizonExchange x = market(3);
        x.trade(0, 1, 0, 10, 9);
        x.trade(2, 0, 0, 10, 9);
        x.trade(0, 1, 0, 1, 1);
        x.withdraw(0, 95);
        x.setQuote(0, 40);
        x.dawn();
        Check.same("6 a debt", x.moneyOf(0), -5);
        Check.same("6 called with no position", x.isCalled(0) + " " + x.positionOf(0, 0), "true 0");
        Check.same("6 the least without its contracts", x.leastMargins(0), 0);
        Check.same("6 the same by sets", x.leastMarginsBySets(0), 0);
        Check.noElement("6 no taker", () -> x.takerOf(0, 0));
        x.contribute(1, 3);
        x.deposit(2, 100);
        x.setQuote(0, 39);
        Check.same("6 defaults", x.dawn(), 1);
        Check.same("6 its contracts ended", x.contractCount(), 0);
        Check.same("6 the fund paid what it had", x.fund(), 0);
        Check.same("6 the rest is written off", x.writtenOff(), 2);
    }

    /** Traders 1 to 3 are alike, so that the taker of the lowest horizon has the lowest number. */
    private static void defaultTies() {
        HorizonExchange x = new HorizonExchange();
        x.addHorizon(50, 5);
        x.addHorizon(50, 5);
        x.addTrader(100);
        for (int trader = 1; trader < 6; trader++) {
            x.addTrader(500);
        }
        x.trade(0, 5, 0, 10, 9);
        x.trade(4, 0, 1, 10, 9);
        x.withdraw(5, 450);
        x.withdraw(4, 450);
        Check.same("6 those opposite take them", x.takerOf(0, 0) + " " + x.takerOf(0, 1), "5 4");
        x.setQuote(0, 51);
        x.setQuote(1, 49);
        x.dawn();
        Check.same("6 those opposite are called", x.isCalled(0) + " " + x.isCalled(4) + " " + x.isCalled(5),
            "false true true");
        Check.same("6 the lowest takes the lowest", x.takerOf(0, 0) + " " + x.takerOf(0, 1), "1 2");
        Check.same("6 their margins", x.leastMargins(0), 100);
        Check.same("6 of another", x.takerOf(4, 1), 0);
        Check.same("6 least of another", x.leastMargins(4), 50);
        x.withdraw(0, 20);
        x.setQuote(0, 50);
        x.setQuote(1, 50);
        x.dawn();
        x.setQuote(0, 52);
        x.setQuote(1, 48);
        x.dawn();
        x.setQuote(0, 53);
        x.setQuote(1, 47);
        Check.same("6 both default", x.dawn(), 2);
        Check.same("6 taken over by the one opposite", x.positionOf(0, 0) + " " + x.positionOf(0, 1), "0 0");
    }

    /** Trader 2 would be the best taker, but is called at the dawn at which trader 1 defaults. */
    private static void defaultUsesNoCalledTaker() {
        HorizonExchange x = market(4);
        x.addHorizon(50, 5);
        x.deposit(2, 50);
        x.trade(2, 1, 0, 20, 9);
        x.trade(2, 3, 1, 10, 9);
        x.setQuote(0, 51);
        x.dawn();
        Check.same("6 called", x.isCalled(1) + " " + x.isCalled(2), "true false");
        Check.same("6 the best while it is sound", x.takerOf(1, 0), 2);
        x.withdraw(2, 20);
        x.setQuote(1, 49);
        Check.same("6 one defaults", x.dawn(), 1);
        Check.same("6 one is called at this dawn", x.isCalled(2), true);
        Check.same("6 the lowest of the others took it", x.sellerOf(0), 0);
        Check.same("6 both contracts stay", x.contractCount(), 2);
        Check.same("6 its position", x.positionOf(0, 0), -20);
        Check.same("6 not itself, and nobody who is called or has defaulted", x.takerOf(0, 0), 3);
        Check.same("6 the margin", x.leastMargins(0), 150);
    }

    private static void defaultsInOrder() {
        HorizonExchange x = market(4);
        x.deposit(3, 900);
        x.trade(3, 0, 0, 20, 9);
        x.trade(3, 1, 0, 20, 9);
        x.setQuote(0, 52);
        x.dawn();
        Check.same("6 both called", x.isCalled(0) + " " + x.isCalled(1), "true true");
        x.deposit(0, 30);
        x.deposit(1, 14);
        x.setQuote(0, 56);
        Check.same("6 both default", x.dawn(), 2);
        Check.same("6 both", x.hasDefaulted(0) + " " + x.hasDefaulted(1), "true true");
        Check.same("6 no contract", x.contractCount(), 0);
        Check.same("6 the first gave what the second owed", x.fund() + " " + x.writtenOff(), "4 0");
        HorizonExchange y = market(4);
        y.deposit(3, 900);
        y.trade(3, 0, 0, 20, 9);
        y.trade(3, 1, 0, 20, 9);
        y.setQuote(0, 54);
        y.dawn();
        y.deposit(1, 79);
        y.setQuote(0, 56);
        Check.same("6 both default", y.dawn(), 2);
        Check.same("6 the first found an empty fund", y.fund() + " " + y.writtenOff(), "59 20");
    }

    private static void defaultMoney() {
        HorizonExchange x = market(3);
        x.contribute(2, 30);
        x.deposit(0, 900);
        x.trade(0, 1, 0, 20, 9);
        x.setQuote(0, 55);
        x.dawn();
        x.setQuote(0, 56);
        x.dawn();
        Check.same("6 the fund pays", x.fund(), 10);
        Check.same("6 nothing written off", x.writtenOff(), 0);
        Check.same("6 no debt", x.moneyOf(1), 0);
        x.dawn();
        Check.same("6 stays defaulted", x.hasDefaulted(1) + " " + x.isCalled(1), "true false");
    }

    /** Four horizons, six traders and twenty contracts; trader 0 has bought on every horizon, and defaults. */
    private static void fullExchange() {
        HorizonExchange x = new HorizonExchange();
        for (int horizon = 0; horizon < 4; horizon++) {
            x.addHorizon(50, 1 + horizon);
        }
        x.addTrader(40);
        for (int trader = 1; trader < 6; trader++) {
            x.addTrader(900);
        }
        for (int contract = 0; contract < 20; contract++) {
            int horizon = contract % 4;
            int seller = 1 + contract % 5;
            x.trade(contract < 8 ? 0 : 1 + (contract + 1) % 5, seller, horizon, contract < 8 ? 2 : 3, 1 + contract % 9);
        }
        Check.same("4 twenty", x.contractCount(), 20);
        Check.same("26 of the first", x.marginOf(0), 40);
        x.setQuote(3, 49);
        Check.same("6 nobody yet", x.dawn(), 0);
        Check.same("6 called", x.isCalled(0), true);
        Check.same("6 expired", x.contractCount(), 17);
        Check.same("6 its variation", x.moneyOf(0), 36);
        Check.same("31 both ways", x.leastMargins(0), x.leastMarginsBySets(0));
        Check.same("29 both ways", x.payments(), x.paymentsByGroups());
        x.setQuote(0, 48);
        x.setQuote(1, 52);
        x.setQuote(2, 45);
        x.setQuote(3, 40);
        Check.same("45 consistent", x.isConsistent(), true);
        int takers = 0;
        for (int horizon = 0; horizon < 4; horizon++) {
            takers |= 1 << x.takerOf(0, horizon);
        }
        Check.same("33 four takers, and not itself", Integer.bitCount(takers) + " " + (takers & 1), "4 0");
        Check.same("6 a default", x.dawn(), 1);
        Check.same("6 prices", x.priceOf(0) + " " + x.priceOf(1), "48 52");
        Check.same("6 prices", x.priceOf(2) + " " + x.priceOf(3), "45 40");
        Check.same("45 consistent", x.isConsistent(), true);
        int margins = 0;
        for (int trader = 0; trader < 6; trader++) {
            margins += x.marginOf(trader);
        }
        Check.same("40 all margins", x.meanMargin(), margins / 6.0);
        Check.same("41 five of six", x.soundShare(), 5.0f / 6.0f);
        for (int contract = 0; contract < x.contractCount(); contract++) {
            Check.same("6 no contract of the first", x.buyerOf(contract) == 0 || x.sellerOf(contract) == 0, false);
        }
    }

    private static void deposit() {
        HorizonExchange x = market(2);
        for (int trader : new int[] {-1, 2, Integer.MIN_VALUE, Integer.MAX_VALUE}) {
            Check.index("7 " + trader, () -> x.deposit(trader, 1));
        }
        Check.index("7 no trader, wrong amount", () -> x.deposit(2, 0));
        for (int amount : new int[] {0, 10000, -1, Integer.MIN_VALUE, Integer.MAX_VALUE}) {
            Check.argument("7 " + amount, () -> x.deposit(0, amount));
        }
        Check.same("7 least", x.deposit(0, 1), 101);
        Check.same("7 most", x.deposit(0, 9999), 10100);
        Check.same("7 money", x.moneyOf(0), 10100);
        Check.same("7 the other's", x.moneyOf(1), 100);
        Check.same("7 brought in", x.broughtIn(), 10200L);
        HorizonExchange y = fallen();
        Check.state("7 defaulted", () -> y.deposit(1, 1));
        Check.argument("7 defaulted, wrong", () -> y.deposit(1, 0));
    }

    private static void withdraw() {
        HorizonExchange x = market(2);
        for (int trader : new int[] {-1, 2, Integer.MIN_VALUE, Integer.MAX_VALUE}) {
            Check.index("8 " + trader, () -> x.withdraw(trader, 1));
        }
        Check.index("8 no trader, wrong amount", () -> x.withdraw(2, 0));
        for (int amount : new int[] {0, 10000, -1, Integer.MIN_VALUE, Integer.MAX_VALUE}) {
            Check.argument("8 " + amount, () -> x.withdraw(0, amount));
        }
        x.trade(0, 1, 0, 8, 9);
        Check.unsupported("8 below the margin", () -> x.withdraw(0, 61));
        Check.same("8 down to the margin", x.withdraw(0, 60), 40);
        Check.unsupported("8 no more", () -> x.withdraw(0, 1));
        Check.same("8 money", x.moneyOf(0), 40);
        Check.same("8 withdrawn", x.withdrawn(), 60L);
        Check.same("8 brought in", x.broughtIn(), 200L);
        x.setQuote(0, 49);
        x.dawn();
        x.deposit(0, 50);
        Check.same("8 a called one", x.isCalled(0) + " " + x.withdraw(0, 42), "true 40");
        HorizonExchange y = fallen();
        Check.state("8 defaulted", () -> y.withdraw(1, 1));
        Check.argument("8 defaulted, wrong", () -> y.withdraw(1, 0));
    }

    private static void contribute() {
        HorizonExchange x = market(2);
        for (int trader : new int[] {-1, 2, Integer.MIN_VALUE, Integer.MAX_VALUE}) {
            Check.index("9 " + trader, () -> x.contribute(trader, 1));
        }
        Check.index("9 no trader, wrong amount", () -> x.contribute(2, 0));
        for (int amount : new int[] {0, 10000, -1, Integer.MIN_VALUE, Integer.MAX_VALUE}) {
            Check.argument("9 " + amount, () -> x.contribute(0, amount));
        }
        x.trade(0, 1, 0, 8, 9);
        Check.unsupported("9 below the margin", () -> x.contribute(0, 61));
        Check.same("9 down to the margin", x.contribute(0, 60), 60);
        Check.same("9 more", x.contribute(1, 7), 67);
        Check.same("9 money", x.moneyOf(0), 40);
        Check.same("9 fund", x.fund(), 67);
        Check.same("9 not withdrawn", x.withdrawn(), 0L);
        HorizonExchange y = fallen();
        Check.state("9 defaulted", () -> y.contribute(1, 1));
        Check.argument("9 defaulted, wrong", () -> y.contribute(1, 0));
    }

    /** Trader 1 has defaulted. */
    private static HorizonExchange fallen() {
        HorizonExchange x = market(2);
        x.trade(0, 1, 0, 20, 9);
        x.setQuote(0, 60);
        x.dawn();
        x.dawn();
        return x;
    }
}
