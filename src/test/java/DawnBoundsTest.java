/** Margins, calls, takers and the fund, each one coin or one trader on this side of its bound and on the other. */
public final class DawnBoundsTest {
    public static void main(String[] args) {
        moneyAndMarginOfABuyer();
        moneyAndMarginOfASeller();
        moneyAndMarginBehindATrade();
        tradeThatLowersAMargin();
        withdrawToTheMargin();
        contributeToTheMargin();
        debtsTakeNothingOut();
        callsWithoutPosition();
        callsAtTheMargin();
        callsThatEndOrNot();
        theDefaultedAreNotLookedAt();
        soundTradersAndPositions();
        positionsOfNobodyElse();
        whoIsStillToDefaultTakesNothing();
        noPositionNeedsNoTaker();
        whatTheFundPays();
        theFundInTheOrderOfNumbers();
        lastDayOfAContract();
        marginsFromTheLeastOn();
        greatestPosition();
        paymentsOfSoMany();
        ranks();
        shares();
        Check.end();
    }

    private static HorizonExchange market(int... money) {
        HorizonExchange x = new HorizonExchange();
        x.addHorizon(50, 5);
        x.addHorizon(50, 3);
        for (int coins : money) {
            x.addTrader(coins);
        }
        return x;
    }

    private static void moneyAndMarginOfABuyer() {
        Check.same("4 its margin", market(35, 9999).trade(0, 1, 0, 7, 1), 0);
        Check.unsupported("4 one coin less", () -> market(34, 9999).trade(0, 1, 0, 7, 1));
        Check.same("4 one coin more", market(36, 9999).trade(0, 1, 0, 7, 1), 0);
        Check.unsupported("4 one piece more", () -> market(35, 9999).trade(0, 1, 0, 8, 1));
        Check.unsupported("4 no money", () -> market(0, 9999).trade(0, 1, 1, 1, 1));
        Check.same("4 the least margin there", market(3, 9999).trade(0, 1, 1, 1, 1), 0);
        Check.unsupported("4 less than it", () -> market(2, 9999).trade(0, 1, 1, 1, 1));
    }

    private static void moneyAndMarginOfASeller() {
        Check.same("4 its margin", market(9999, 35).trade(0, 1, 0, 7, 1), 0);
        Check.unsupported("4 one coin less", () -> market(9999, 34).trade(0, 1, 0, 7, 1));
        Check.unsupported("4 one piece more", () -> market(9999, 35).trade(0, 1, 0, 8, 1));
        Check.unsupported("4 no money", () -> market(9999, 0).trade(0, 1, 1, 1, 1));
        Check.unsupported("4 both too little", () -> market(34, 34).trade(0, 1, 0, 7, 1));
        Check.same("4 both just enough", market(35, 35).trade(0, 1, 0, 7, 1), 0);
    }

    /** What counts is the margin afterwards, over all contracts and all horizons. */
    private static void moneyAndMarginBehindATrade() {
        HorizonExchange x = market(50, 50);
        x.trade(0, 1, 0, 7, 9);
        Check.same("4 the rest on the other horizon", x.trade(1, 0, 1, 5, 9), 1);
        Check.same("26 all of it", x.marginOf(0) + " " + x.marginOf(1), "50 50");
        Check.unsupported("4 one piece more", () -> x.trade(1, 0, 1, 1, 9));
        Check.unsupported("4 one piece more", () -> x.trade(0, 1, 0, 1, 9));
        Check.same("4 one piece less", x.trade(0, 1, 1, 1, 9), 2);
        Check.same("26 three coins less", x.marginOf(0) + " " + x.marginOf(1), "47 47");
        Check.same("4 to the other side", x.trade(1, 0, 0, 14, 9), 3);
        Check.same("26 as much on the other side", x.marginOf(0) + " " + x.positionOf(0, 0), "47 -7");
        Check.unsupported("4 one piece beyond", () -> x.trade(1, 0, 0, 1, 9));
    }

    /** Trader 0 defaults while 1 is called, so that 2 takes 20 over and has 20 coins for a margin of 100. */
    private static HorizonExchange burdened() {
        HorizonExchange x = market(100, 100, 20);
        x.trade(0, 1, 0, 20, 9);
        x.setQuote(0, 48);
        x.dawn();
        x.withdraw(1, 40);
        x.setQuote(0, 49);
        Check.same("6 one defaults", x.dawn() + " " + x.hasDefaulted(0) + " " + x.isCalled(1), "1 true true");
        Check.same("6 the last one took it", x.positionOf(2, 0) + " " + x.moneyOf(2) + " " + x.marginOf(2), "20 20 100");
        x.addTrader(9999);
        return x;
    }

    private static void tradeThatLowersAMargin() {
        HorizonExchange x = burdened();
        Check.same("16 it is sound with less than its margin", x.isCalled(2), false);
        Check.unsupported("4 still below", () -> x.trade(3, 2, 0, 15, 1));
        Check.same("4 down to its money", x.trade(3, 2, 0, 16, 1), 1);
        Check.same("26 its money", x.marginOf(2), 20);
        HorizonExchange y = burdened();
        Check.unsupported("8 nothing to take out", () -> y.withdraw(2, 1));
        Check.unsupported("9 nothing to give", () -> y.contribute(2, 1));
        Check.same("6 the next dawn calls it", y.dawn() + " " + y.isCalled(2), "1 true");
        HorizonExchange z = burdened();
        z.deposit(2, 79);
        z.dawn();
        Check.same("6 one coin too little", z.isCalled(2), true);
        HorizonExchange w = burdened();
        w.deposit(2, 80);
        w.dawn();
        Check.same("6 just enough", w.isCalled(2), false);
    }

    private static void withdrawToTheMargin() {
        HorizonExchange x = market(100, 100);
        x.trade(0, 1, 0, 8, 9);
        Check.unsupported("8 one coin below the margin", () -> x.withdraw(0, 61));
        Check.same("8 down to the margin", x.withdraw(0, 60), 40);
        Check.unsupported("8 not one coin more", () -> x.withdraw(0, 1));
        Check.same("8 a seller, one coin above", x.withdraw(1, 59), 41);
        Check.same("8 a seller, to the margin", x.withdraw(1, 1), 40);
        Check.unsupported("8 a seller, below", () -> x.withdraw(1, 1));
        HorizonExchange y = market(9998, 9999);
        Check.unsupported("8 one coin more than all", () -> y.withdraw(0, 9999));
        Check.same("8 all", y.withdraw(0, 9998), 0);
        Check.unsupported("8 of nothing", () -> y.withdraw(0, 1));
        Check.same("8 all that may be taken at once", y.withdraw(1, 9999), 0);
        Check.same("38 all", y.withdrawn(), 19997L);
    }

    private static void contributeToTheMargin() {
        HorizonExchange x = market(100, 100);
        x.trade(0, 1, 0, 8, 9);
        Check.unsupported("9 one coin below the margin", () -> x.contribute(0, 61));
        Check.same("9 down to the margin", x.contribute(0, 60), 60);
        Check.unsupported("9 not one coin more", () -> x.contribute(0, 1));
        Check.same("9 a seller, to the margin", x.contribute(1, 60), 120);
        Check.unsupported("9 a seller, below", () -> x.contribute(1, 1));
        HorizonExchange y = market(9998, 9999);
        Check.unsupported("9 one coin more than all", () -> y.contribute(0, 9999));
        Check.same("9 all", y.contribute(0, 9998), 9998);
        Check.unsupported("9 of nothing", () -> y.contribute(0, 1));
        Check.same("9 all that may be given at once", y.contribute(1, 9999), 19997);
        Check.same("15 nothing left", y.moneyOf(0) + " " + y.moneyOf(1), "0 0");
    }

    /** Trader 1 has sold one piece for one day; a quote of 50 + d takes d coins from it. */
    private static HorizonExchange sold(int money, int d) {
        HorizonExchange x = market(500, money);
        x.trade(0, 1, 0, 1, 1);
        x.setQuote(0, 50 + d);
        x.dawn();
        return x;
    }

    private static void debtsTakeNothingOut() {
        HorizonExchange x = sold(10, 12);
        Check.same("15 a debt", x.moneyOf(1), -2);
        Check.unsupported("8 with a debt", () -> x.withdraw(1, 1));
        Check.unsupported("9 with a debt", () -> x.contribute(1, 1));
        Check.same("7 one coin", x.deposit(1, 1), -1);
        Check.unsupported("8 with less debt", () -> x.withdraw(1, 1));
        Check.same("7 no debt", x.deposit(1, 1), 0);
        Check.unsupported("8 with nothing", () -> x.withdraw(1, 1));
        Check.unsupported("9 with nothing", () -> x.contribute(1, 1));
        Check.same("7 one coin", x.deposit(1, 1), 1);
        Check.same("8 with one coin", x.withdraw(1, 1), 0);
    }

    private static void callsWithoutPosition() {
        Check.same("6 one coin is enough", sold(10, 9).isCalled(1), false);
        HorizonExchange x = sold(10, 10);
        Check.same("6 nothing is enough for nothing", x.moneyOf(1) + " " + x.isCalled(1), "0 false");
        HorizonExchange y = sold(10, 11);
        Check.same("6 a debt of one coin is called", y.moneyOf(1) + " " + y.isCalled(1), "-1 true");
        Check.same("6 it defaults with it", y.dawn() + " " + y.writtenOff(), "1 1");
        HorizonExchange z = sold(10, 11);
        z.deposit(1, 1);
        Check.same("6 it does not without it", z.dawn() + " " + z.isCalled(1), "0 false");
    }

    /** Trader 1 sold 10 pieces, for which it must have 50 coins, and loses 10 coins for each step of the quote. */
    private static HorizonExchange bound(int money) {
        HorizonExchange x = market(500, money);
        x.trade(0, 1, 0, 10, 9);
        x.setQuote(0, 54);
        x.dawn();
        return x;
    }

    private static void callsAtTheMargin() {
        Check.same("6 one coin more", bound(91).isCalled(1), false);
        Check.same("6 its margin", bound(90).isCalled(1), false);
        Check.same("6 one coin less", bound(89).isCalled(1), true);
        Check.same("6 nobody defaults yet", bound(89).hasDefaulted(1), false);
        Check.same("6 a debt of its margin", bound(50).isCalled(1) + " " + bound(50).hasDefaulted(1), "true false");
        HorizonExchange x = market(90, 500);
        x.trade(0, 1, 0, 10, 9);
        x.setQuote(0, 46);
        x.dawn();
        Check.same("6 a buyer with its margin", x.moneyOf(0) + " " + x.isCalled(0), "50 false");
        x.undo();
        x.withdraw(0, 1);
        x.dawn();
        Check.same("6 a buyer with one coin less", x.moneyOf(0) + " " + x.isCalled(0), "49 true");
    }

    private static void callsThatEndOrNot() {
        HorizonExchange x = bound(80);
        Check.same("6 called", x.moneyOf(1) + " " + x.isCalled(1), "40 true");
        Check.same("7 one coin too little", x.deposit(1, 9), 49);
        Check.same("6 defaults", x.dawn() + " " + x.hasDefaulted(1) + " " + x.isCalled(1), "1 true false");
        HorizonExchange y = bound(80);
        Check.same("7 its margin", y.deposit(1, 10), 50);
        Check.same("7 ends no call", y.isCalled(1), true);
        Check.state("4 and it cannot trade", () -> y.trade(1, 0, 0, 1, 1));
        Check.same("6 the dawn ends it", y.dawn() + " " + y.hasDefaulted(1) + " " + y.isCalled(1), "0 false false");
        y.setQuote(0, 55);
        Check.same("6 called a second time", y.dawn() + " " + y.isCalled(1), "0 true");
        y.deposit(1, 10);
        Check.same("6 and not any more", y.dawn() + " " + y.isCalled(1), "0 false");
        Check.same("4 and it can trade", y.trade(1, 0, 0, 1, 1), 1);
        HorizonExchange z = bound(80);
        z.deposit(1, 60);
        Check.same("8 a called one, to its margin", z.withdraw(1, 50), 50);
        Check.unsupported("8 a called one, below", () -> z.withdraw(1, 1));
        Check.same("6 just enough", z.dawn() + " " + z.isCalled(1), "0 false");
    }

    private static void theDefaultedAreNotLookedAt() {
        HorizonExchange x = bound(60);
        Check.same("6 defaults", x.dawn(), 1);
        for (int day = 0; day < 4; day++) {
            Check.same("6 no more", x.dawn() + " " + x.isCalled(1) + " " + x.hasDefaulted(1) + " " + x.moneyOf(1),
                "0 false true 0");
        }
        Check.same("43 with a line", Check.line(x, x.writeTrader(1)), "0/0x");
        Check.state("7 no deposit", () -> x.deposit(1, 1));
        Check.same("37 nothing more brought in", x.broughtIn(), 560L);
    }

    /**
     * Trader 0 has bought one piece on each of the first horizons from trader 1, and is called for a debt. All others are
     * sound. Trader 1 takes the lowest over, as all ways cost as much, then 2 the next one, and so on.
     */
    private static HorizonExchange positions(int count, int others) {
        HorizonExchange x = new HorizonExchange();
        for (int horizon = 0; horizon < 4; horizon++) {
            x.addHorizon(50, 5);
        }
        x.addTrader(30);
        for (int trader = 1; trader <= others; trader++) {
            x.addTrader(1000);
        }
        for (int horizon = 0; horizon < count; horizon++) {
            x.trade(0, 1, horizon, 1, 9);
        }
        x.trade(0, 1, 0, 1, 1);
        x.setQuote(0, 10);
        x.dawn();
        Check.same("6 called", x.isCalled(0), true);
        return x;
    }

    private static void soundTradersAndPositions() {
        for (int count = 0; count <= 4; count++) {
            for (int others = 1; others <= 5; others++) {
                HorizonExchange x = positions(count, others);
                String what = " " + count + " positions, " + others + " others";
                if (others < count) {
                    Check.unsupported("31" + what, () -> x.leastMargins(0));
                    Check.unsupported("32" + what, () -> x.leastMarginsBySets(0));
                    Check.unsupported("33" + what, () -> x.takerOf(0, 0));
                } else {
                    int least = count == 0 ? 0 : 10 * (count - 1);
                    Check.same("31" + what, x.leastMargins(0), least);
                    Check.same("32" + what, x.leastMarginsBySets(0), least);
                    for (int horizon = 0; horizon < count; horizon++) {
                        Check.same("33" + what, x.takerOf(0, horizon), horizon + 1);
                    }
                }
                Check.same("6" + what, x.dawn(), 1);
                int left = others < count || count == 0 ? 0 : count - 1;
                Check.same("6 contracts" + what, x.contractCount(), left);
                for (int contract = 0; contract < left; contract++) {
                    Check.same("6" + what, Check.line(x, x.writeContract(contract)),
                        (contract + 2) + "<1:1h" + (contract + 1) + "+7");
                }
                Check.same("45" + what, x.isConsistent(), true);
            }
        }
    }

    /** The only other trader is called at the very dawn at which the first one defaults. */
    private static void positionsOfNobodyElse() {
        HorizonExchange x = market(100, 100);
        x.trade(0, 1, 0, 20, 9);
        x.setQuote(0, 48);
        x.dawn();
        Check.same("33 one is sound", x.takerOf(0, 0) + " " + x.leastMargins(0), "1 0");
        x.withdraw(1, 40);
        x.setQuote(0, 49);
        Check.same("6 one defaults, one is called", x.dawn() + " " + x.isCalled(1), "1 true");
        Check.same("6 all contracts ended", x.contractCount() + " " + x.positionOf(1, 0), "0 0");
        Check.same("35 its money", x.fund() + " " + x.moneyOf(0), "80 0");
        Check.same("41 nobody is sound", x.soundShare(), 0.0f);
        Check.same("31 of the called one, without positions", x.leastMargins(1) + " " + x.leastMarginsBySets(1), "0 0");
        Check.noElement("33 no position", () -> x.takerOf(1, 0));
    }

    /** Trader 2 would be the best taker for 1, but defaults at the same dawn, after 1. */
    private static void whoIsStillToDefaultTakesNothing() {
        HorizonExchange x = market(500, 50, 110, 900);
        x.trade(3, 1, 0, 10, 9);
        x.trade(2, 3, 0, 10, 9);
        x.trade(3, 2, 1, 20, 1);
        Check.same("33 the best while it is sound", x.takerOf(1, 0), 2);
        x.setQuote(0, 52);
        x.setQuote(1, 56);
        x.dawn();
        Check.same("6 both are called", x.isCalled(1) + " " + x.isCalled(2), "true true");
        Check.same("33 the lowest of the others", x.takerOf(1, 0), 0);
        Check.same("6 both default", x.dawn() + " " + x.contractCount(), "2 2");
        Check.same("6 what 1 had sold", Check.line(x, x.writeContract(0)), "3<0:10h0+7");
        Check.same("6 what 2 had bought", Check.line(x, x.writeContract(1)), "0<3:10h0+7");
        Check.same("35 what both had", x.fund(), 40);
    }

    private static void noPositionNeedsNoTaker() {
        HorizonExchange x = market(7);
        Check.same("31 alone", x.leastMargins(0), 0);
        Check.same("32 alone", x.leastMarginsBySets(0), 0);
        Check.noElement("33 alone", () -> x.takerOf(0, 0));
        Check.noElement("33 alone", () -> x.takerOf(0, 1));
        HorizonExchange y = new HorizonExchange();
        y.addTrader(7);
        Check.same("31 alone, without horizons", y.leastMargins(0) + " " + y.leastMarginsBySets(0), "0 0");
        Check.index("33 alone, without horizons", () -> y.takerOf(0, 0));
    }

    /** Trader 1 comes to its second dawn with so much money, and the fund has so much. */
    private static void whatTheFundPays() {
        for (int money : new int[] {-39, -31, -30, -29, -2, -1, 0, 1, 2, 49, 50}) {
            for (int fund : new int[] {0, 1, 2, 29, 30, 31, 100}) {
                HorizonExchange x = bound(60);
                x.addTrader(100);
                if (fund > 0) {
                    x.contribute(2, fund);
                }
                x.setQuote(0, 60);
                x.deposit(1, money + 40);
                String what = " " + money + " and " + fund;
                if (money >= 50) {
                    Check.same("6 enough" + what, x.dawn() + " " + x.moneyOf(1) + " " + x.fund(), "0 50 " + fund);
                    continue;
                }
                int missing = Math.max(0, -money);
                int paid = Math.min(missing, fund);
                Check.same("6 defaults" + what, x.dawn() + " " + x.moneyOf(1), "1 0");
                Check.same("35" + what, x.fund(), fund - paid + Math.max(0, money));
                Check.same("36" + what, x.writtenOff(), missing - paid);
                Check.same("45" + what, x.isConsistent(), true);
            }
        }
    }

    /** Traders 1 and 2 default at one dawn, with so much money each. */
    private static HorizonExchange two(int first, int second, int fund) {
        HorizonExchange x = market(900, 100, 100, 100);
        if (fund > 0) {
            x.contribute(3, fund);
        }
        x.trade(0, 1, 0, 10, 9);
        x.trade(0, 2, 0, 10, 9);
        x.setQuote(0, 60);
        x.dawn();
        x.setQuote(0, 65);
        x.deposit(1, 50 + first);
        x.deposit(2, 50 + second);
        Check.same("6 both default", x.dawn() + " " + x.hasDefaulted(1) + " " + x.hasDefaulted(2), "2 true true");
        return x;
    }

    private static void theFundInTheOrderOfNumbers() {
        int[][] rows = {{10, -30, 0, 0, 20}, {-30, 10, 0, 10, 30}, {-30, 10, 29, 10, 1}, {-30, 10, 30, 10, 0},
            {-30, 10, 31, 11, 0}, {10, -30, 19, 0, 1}, {10, -30, 20, 0, 0}, {10, -30, 21, 1, 0}, {-20, -30, 49, 0, 1},
            {-20, -30, 50, 0, 0}, {-20, -30, 51, 1, 0}, {-20, -30, 19, 0, 31}, {-20, -30, 20, 0, 30}, {0, -1, 0, 0, 1},
            {-1, 0, 1, 0, 0}, {49, 49, 0, 98, 0}, {49, -49, 0, 0, 0}, {-49, 49, 0, 49, 49}};
        for (int[] row : rows) {
            HorizonExchange x = two(row[0], row[1], row[2]);
            String what = " " + row[0] + ", " + row[1] + " and " + row[2];
            Check.same("35" + what, x.fund(), row[3]);
            Check.same("36" + what, x.writtenOff(), row[4]);
            Check.same("45" + what, x.isConsistent(), true);
        }
    }

    /** The variation of its last dawn is paid, and no later one. */
    private static void lastDayOfAContract() {
        for (int days : new int[] {1, 2, 8, 9}) {
            HorizonExchange x = market(900, 900);
            x.trade(0, 1, 0, 1, days);
            for (int day = 1; day <= days + 1; day++) {
                x.setQuote(0, 50 + day);
                int open = day <= days ? 1 : 0;
                Check.same("28 at day " + day + " of " + days, x.variationOf(0), open);
                Check.same("25 at day " + day + " of " + days, Look.answer(() -> x.daysLeft(0)),
                    open == 1 ? days - day + 1 : "IndexOutOfBoundsException");
                x.dawn();
                Check.same("15 at day " + day + " of " + days, x.moneyOf(0), 900 + Math.min(day, days));
            }
            Check.same("20 after " + days, x.contractCount(), 0);
        }
    }

    private static void marginsFromTheLeastOn() {
        for (int range : new int[] {1, 2, 19, 20}) {
            for (int quantity : new int[] {1, 2, 19, 20}) {
                HorizonExchange x = new HorizonExchange();
                x.addHorizon(50, range);
                x.addTrader(range * quantity);
                x.addTrader(range * quantity);
                x.trade(0, 1, 0, quantity, 1);
                String what = " of " + quantity + " times " + range;
                Check.same("26" + what, x.marginOf(0) + " " + x.marginOf(1), range * quantity + " " + range * quantity);
                Check.same("27" + what, x.marginByPositions(0) + " " + x.marginByPositions(1),
                    range * quantity + " " + range * quantity);
                x.trade(1, 0, 0, quantity, 1);
                Check.same("26 none" + what, x.marginOf(0) + " " + x.marginByPositions(1), "0 0");
            }
        }
    }

    /** Twenty contracts of 20 pieces each, from the least price to the greatest and back. */
    private static void greatestPosition() {
        HorizonExchange x = new HorizonExchange();
        x.addHorizon(1, 20);
        x.addTrader(8000);
        x.addTrader(7999);
        for (int contract = 0; contract < 19; contract++) {
            x.trade(0, 1, 0, 20, 9);
        }
        Check.unsupported("4 one coin too little", () -> x.trade(0, 1, 0, 20, 9));
        x.deposit(1, 1);
        Check.same("4 just enough", x.trade(0, 1, 0, 20, 9), 19);
        Check.same("18 positions", x.positionOf(0, 0) + " " + x.positionOf(1, 0), "400 -400");
        Check.same("26 margins", x.marginOf(0) + " " + x.marginOf(1), "8000 8000");
        Check.same("27 margins", x.marginByPositions(0) + " " + x.marginByPositions(1), "8000 8000");
        Check.same("19 open", x.openQuantity(0), 400);
        Check.same("40 mean", x.meanMargin(), 8000.0);
        x.setQuote(0, 99);
        Check.same("28 variations", x.variationOf(0) + " " + x.variationOf(1), "39200 -39200");
        Check.same("29 payments", x.payments() + " " + x.paymentsByGroups(), "1 1");
        x.dawn();
        Check.same("43 a long line", Check.line(x, x.writeTrader(1)), "-31200/8000!");
        Check.same("43 another", Check.line(x, x.writeTrader(0)), "47200/8000");
        x.setQuote(0, 1);
        Check.same("6 back", x.dawn() + " " + x.moneyOf(0) + " " + x.moneyOf(1), "0 8000 8000");
        Check.same("6 nobody is called", x.isCalled(0) + " " + x.isCalled(1), "false false");
        x.setQuote(0, 99);
        x.dawn();
        Check.same("6 the greatest loss", x.dawn() + " " + x.writtenOff() + " " + x.contractCount(), "1 31200 0");
        Check.same("45 consistent", x.isConsistent(), true);
    }

    /** Traders 1 and on have bought 1, 2, 3.. pieces from trader 0: no smaller group adds up to 0. */
    private static void paymentsOfSoMany() {
        for (int traders = 0; traders <= 6; traders++) {
            HorizonExchange x = market(new int[traders]);
            for (int trader = 0; trader < traders; trader++) {
                x.deposit(trader, 1000);
            }
            for (int trader = 1; trader < traders; trader++) {
                x.trade(trader, 0, 0, trader, 9);
            }
            Check.same("29 no variations of " + traders, x.payments() + " " + x.paymentsByGroups(), "0 0");
            x.setQuote(0, 49);
            int due = Math.max(0, traders - 1);
            Check.same("29 one group of " + traders, x.payments(), due);
            Check.same("30 one group of " + traders, x.paymentsByGroups(), due);
        }
        int[][] groups = {{0, 0, 0}, {1, 0, 0}, {1, 1, 0}, {1, 1, 1}};
        for (int[] pairs : groups) {
            HorizonExchange x = market(1000, 1000, 1000, 1000, 1000, 1000);
            int count = 0;
            for (int pair = 0; pair < 3; pair++) {
                if (pairs[pair] > 0) {
                    x.trade(pair, 5 - pair, 0, 4, 9);
                    count++;
                }
            }
            x.trade(0, 5, 1, 1, 9);
            x.trade(5, 0, 1, 1, 9);
            x.setQuote(0, 99);
            x.setQuote(1, 1);
            Check.same("29 pairs", x.payments(), count);
            Check.same("30 pairs", x.paymentsByGroups(), count);
        }
        HorizonExchange x = market(1000, 1000);
        x.trade(0, 1, 0, 2, 9);
        x.trade(1, 0, 1, 1, 9);
        x.setQuote(0, 51);
        x.setQuote(1, 52);
        Check.same("28 gains and losses make nothing", x.variationOf(0) + " " + x.variationOf(1), "0 0");
        Check.same("29 nobody pays", x.payments() + " " + x.paymentsByGroups(), "0 0");
        x.setQuote(1, 53);
        Check.same("29 for one coin", x.payments() + " " + x.paymentsByGroups(), "1 1");
    }

    private static void ranks() {
        HorizonExchange x = sold(10, 11);
        x.addTrader(0);
        Check.same("34 511, 0, -1", x.traderByMoney(0) + " " + x.traderByMoney(1) + " " + x.traderByMoney(2), "0 2 1");
        x.deposit(1, 1);
        Check.same("34 511, 0, 0", x.traderByMoney(0) + " " + x.traderByMoney(1) + " " + x.traderByMoney(2), "0 1 2");
        x.deposit(2, 511);
        Check.same("34 511, 0, 511", x.traderByMoney(0) + " " + x.traderByMoney(1) + " " + x.traderByMoney(2), "0 2 1");
        x.deposit(2, 1);
        Check.same("34 511, 0, 512", x.traderByMoney(0) + " " + x.traderByMoney(1) + " " + x.traderByMoney(2), "2 0 1");
        Check.noElement("34 no fourth", () -> x.traderByMoney(3));
        HorizonExchange y = bound(60);
        y.dawn();
        y.addTrader(0);
        y.addTrader(5);
        Check.same("34 one has defaulted, and is a trader all the same", y.traderByMoney(0) + " " + y.traderByMoney(1) + " "
            + y.traderByMoney(2) + " " + y.traderByMoney(3), "0 3 1 2");
        Check.same("41 three of four", y.soundShare(), 0.75f);
        y.trade(0, 3, 0, 1, 1);
        Check.same("40 of four", y.meanMargin(), 2.5);
        HorizonExchange alone = market(0);
        Check.same("34 alone", alone.traderByMoney(0), 0);
        Check.noElement("34 no second", () -> alone.traderByMoney(1));
    }

    private static void shares() {
        Check.same("41 one of one", market(0).soundShare(), 1.0f);
        Check.same("41 one of two", sold(10, 11).soundShare(), 0.5f);
        HorizonExchange x = sold(10, 11);
        for (int traders = 3; traders <= 6; traders++) {
            x.addTrader(0);
            Check.same("41 all but one of " + traders, x.soundShare(), (float) (traders - 1) / (float) traders);
        }
        Check.same("40 without contracts", x.meanMargin(), 0.0);
        x.deposit(2, 5);
        x.trade(0, 2, 0, 1, 1);
        Check.same("40 two of six", x.meanMargin(), 10.0 / 6.0);
    }
}
