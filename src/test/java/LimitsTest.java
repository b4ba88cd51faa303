import java.util.ArrayList;
import java.util.List;

/** How much of each thing there may be: 4 horizons, 6 traders, 20 contracts, 60 characters, 8 that can be undone. */
public final class LimitsTest {
    public static void main(String[] args) {
        fourHorizons();
        sixTraders();
        sixTradersOfWhichOneHasDefaulted();
        twentyContracts();
        twentyContractsOfWhichOneEnds();
        twentyContractsOfWhichOneIsUndone();
        limitsInTexts();
        numbersDecrease();
        allContractsEnd();
        sixtyCharacters();
        emptiedBuffer();
        eightModifications();
        eightOfManyModifications();
        eightOfEachKind();
        undoneAndDoneAgain();
        refusedCallsAreNotAmongTheEight();
        emptyExchange();
        fullExchange();
        Check.end();
    }

    private static void fourHorizons() {
        HorizonExchange x = new HorizonExchange();
        for (int horizon = 0; horizon < 4; horizon++) {
            Check.same("2 the number", x.addHorizon(9, 9), horizon);
            Check.same("10 horizons", x.horizonCount(), horizon + 1);
        }
        Check.state("2 a fifth", () -> x.addHorizon(9, 9));
        Check.same("50 the fourth is undone", x.undo() + " " + x.horizonCount(), "3 3");
        Check.same("2 another fourth", x.addHorizon(8, 8), 3);
        Check.state("2 another fifth", () -> x.addHorizon(9, 9));
        Check.same("11 price of the fourth", x.priceOf(3), 8);
    }

    private static void sixTraders() {
        HorizonExchange x = new HorizonExchange();
        for (int trader = 0; trader < 6; trader++) {
            Check.same("3 the number", x.addTrader(9), trader);
            Check.same("14 traders", x.traderCount(), trader + 1);
        }
        Check.state("3 a seventh", () -> x.addTrader(9));
        Check.same("50 the sixth is undone", x.undo() + " " + x.traderCount(), "5 5");
        Check.same("3 another sixth", x.addTrader(8), 5);
        Check.state("3 another seventh", () -> x.addTrader(0));
        Check.same("15 money of the sixth", x.moneyOf(5), 8);
        Check.same("37 brought in", x.broughtIn(), 53L);
    }

    /** One that has defaulted stays a trader. */
    private static void sixTradersOfWhichOneHasDefaulted() {
        HorizonExchange x = Places.trouble();
        Check.same("14 five", x.traderCount() + " " + x.hasDefaulted(3), "5 true");
        Check.same("3 a sixth", x.addTrader(1), 5);
        Check.state("3 a seventh", () -> x.addTrader(1));
    }

    /** Traders 0 and 1 with what they need for 20 contracts, of which the first ends next. */
    private static HorizonExchange nineteen() {
        HorizonExchange x = new HorizonExchange();
        x.addHorizon(50, 1);
        x.addTrader(500);
        x.addTrader(500);
        for (int contract = 0; contract < 19; contract++) {
            Check.same("4 the number", x.trade(contract % 2, 1 - contract % 2, 0, 1 + contract, 1 + contract % 9), contract);
        }
        return x;
    }

    private static void twentyContracts() {
        HorizonExchange x = nineteen();
        Check.same("20 nineteen", x.contractCount(), 19);
        Check.same("4 the 20th", x.trade(1, 0, 0, 20, 9), 19);
        Check.state("4 a 21st", () -> x.trade(0, 1, 0, 1, 1));
        Check.state("4 a 21st, the other way", () -> x.trade(1, 0, 0, 20, 9));
        Check.same("20 twenty", x.contractCount(), 20);
        Check.same("19 their quantity", x.openQuantity(0), 210);
    }

    private static void twentyContractsOfWhichOneEnds() {
        HorizonExchange x = nineteen();
        x.trade(1, 0, 0, 20, 9);
        x.dawn();
        Check.same("20 the 1st, the 10th and the 19th ended", x.contractCount(), 17);
        for (int contract = 17; contract < 20; contract++) {
            Check.same("4 in its place", x.trade(0, 1, 0, 1, 1), contract);
        }
        Check.state("4 a 21st", () -> x.trade(0, 1, 0, 1, 1));
    }

    private static void twentyContractsOfWhichOneIsUndone() {
        HorizonExchange x = nineteen();
        x.trade(1, 0, 0, 20, 9);
        x.undo();
        x.save();
        Check.same("4 in its place", x.trade(0, 1, 0, 3, 3), 19);
        Check.state("4 a 21st", () -> x.trade(0, 1, 0, 1, 1));
        Check.same("52 nineteen", x.restore(), 19);
        Check.same("4 in its place", x.trade(0, 1, 0, 4, 4), 19);
        Check.state("4 a 21st", () -> x.trade(0, 1, 0, 1, 1));
        Check.same("24 the 20th", x.quantityOf(19), 4);
    }

    private static void limitsInTexts() {
        HorizonExchange x = new HorizonExchange();
        Check.same("47 four horizons", Check.run(x, "horizon 5 5;horizon 5 5;horizon 5 5;horizon 5 5"), 4);
        TextBoundsTest.fails(x, "horizon 5 5", 0);
        Check.same("47 six traders", Check.run(x, "trader 1;trader 1;trader 1;trader 1;trader 1;trader 1"), 6);
        TextBoundsTest.fails(x, "trader 1", 0);
        HorizonExchange y = nineteen();
        TextBoundsTest.fails(y, "trade 0 1 0 1 1;trade 0 1 0 1 1", 1);
        Check.same("47 twenty contracts", Check.run(y, "trade 0 1 0 1 1") + " " + y.contractCount(), "1 20");
        TextBoundsTest.fails(y, "trade 0 1 0 1 1", 0);
        Check.same("47 four end, one comes", Check.run(y, "dawn;trade 0 1 0 1 1") + " " + y.contractCount(), "2 17");
    }

    private static String quantities(HorizonExchange x) {
        List<Integer> all = new ArrayList<>();
        for (int contract = 0; contract < x.contractCount(); contract++) {
            all.add(x.quantityOf(contract));
        }
        return all.toString();
    }

    /** The first, one in the middle and the last end, each alone. */
    private static void numbersDecrease() {
        int[][] days = {{1, 2, 2, 2}, {2, 1, 2, 2}, {2, 2, 1, 2}, {2, 2, 2, 1}, {1, 2, 2, 1}, {2, 1, 1, 2}};
        String[] left = {"[2, 3, 4]", "[1, 3, 4]", "[1, 2, 4]", "[1, 2, 3]", "[2, 3]", "[1, 4]"};
        for (int row = 0; row < days.length; row++) {
            HorizonExchange x = new HorizonExchange();
            x.addHorizon(50, 1);
            x.addTrader(500);
            x.addTrader(500);
            for (int contract = 0; contract < 4; contract++) {
                x.trade(contract % 2, 1 - contract % 2, 0, contract + 1, days[row][contract]);
            }
            x.dawn();
            Check.same("6 row " + row, quantities(x), left[row]);
            Check.index("24 row " + row, () -> x.quantityOf(x.contractCount()));
            Check.same("4 the number of a new one", x.trade(0, 1, 0, 9, 9), x.contractCount() - 1);
        }
    }

    private static void allContractsEnd() {
        HorizonExchange x = new HorizonExchange();
        x.addHorizon(50, 1);
        x.addTrader(500);
        x.addTrader(500);
        for (int contract = 0; contract < 20; contract++) {
            x.trade(0, 1, 0, 1, 1);
        }
        x.dawn();
        Check.same("6 none left", x.contractCount() + " " + x.positionOf(0, 0) + " " + x.openQuantity(0), "0 0 0");
        Check.index("21 no first", () -> x.buyerOf(0));
        Check.same("4 numbers start anew", x.trade(0, 1, 0, 1, 1), 0);
    }

    private static void sixtyCharacters() {
        HorizonExchange x = new HorizonExchange();
        for (int length = 1; length <= 60; length++) {
            Check.same("46 length", x.type((char) (32 + length)), length);
        }
        for (char character : new char[] {' ', 'x', '~', ';'}) {
            Check.state("46 a 61st", () -> x.type(character));
        }
        Check.argument("47 the 60", x::execute);
        Check.same("46 the first again", x.type('x'), 1);
        Check.argument("47 the one", x::execute);
        HorizonExchange y = new HorizonExchange();
        String most = "horizon 5 5;trader 5;quote 0 5;dawn;pay 0 5;draw 0 5;give 0 5";
        Check.type(y, most.substring(0, 60));
        Check.state("46 the 61st of a text", () -> y.type('5'));
        Check.argument("47 what ends at 60", y::execute);
        Check.same("48 it ends too early", y.errorPosition(), 60);
        Check.same("47 one character less", Check.run(y, "horizon 5 5;trader 5;quote 0 5;dawn;pay 0 5;draw 0 5;dawn"), 7);
        Check.same("47 sixty", Check.run(y, "trader 1000;trader 1000;horizon 50 05;pay 0 5;dawn;draw 0 10"), 6);
    }

    /** After each way in which a text can end the buffer takes 60 characters again. */
    private static void emptiedBuffer() {
        String[] texts = {"", "dawn", "dawn;dawn", "dawx", "dawn;", "pay 0 1", "dawn;pay 0 1", Places.SIXTY};
        for (String text : texts) {
            HorizonExchange x = new HorizonExchange();
            Check.type(x, text);
            Look.answer(x::execute);
            for (int length = 1; length <= 60; length++) {
                Check.same("46 length after " + text, x.type('x'), length);
            }
            Check.state("46 full after " + text, () -> x.type('x'));
        }
    }

    /** So many deposits, of which at most 8 can be undone. */
    private static void eightModifications() {
        for (int made = 0; made <= 26; made++) {
            HorizonExchange x = new HorizonExchange();
            x.addTrader(100);
            x.save();
            x.restore();
            for (int time = 0; time < made; time++) {
                x.deposit(0, 1 << time % 10);
            }
            int can = Math.min(made, 8);
            for (int left = can - 1; left >= 0; left--) {
                Check.same("50 left of " + made, x.undo(), left);
                int money = 100;
                for (int time = 0; time < made - can + left; time++) {
                    money += 1 << time % 10;
                }
                Check.same("50 money of " + made, x.moneyOf(0), money);
            }
            String before = Look.at(x);
            Check.state("50 no more of " + made, x::undo);
            Check.state("50 no more of " + made, x::undo);
            Check.same("50 a refused one leaves the rest", Look.at(x), before);
        }
    }

    private static void eightOfManyModifications() {
        HorizonExchange x = new HorizonExchange();
        for (int time = 0; time < 400; time++) {
            x.dawn();
        }
        for (int left = 7; left >= 0; left--) {
            Check.same("50 left", x.undo(), left);
        }
        Check.state("50 no ninth", x::undo);
        Check.same("39 days", x.dayCount(), 392);
    }

    private static void modify(HorizonExchange x, int kind) {
        switch (kind) {
            case 0 -> x.addHorizon(5, 5);
            case 1 -> x.addTrader(5);
            case 2 -> x.trade(0, 1, 0, 1, 2);
            case 3 -> x.setQuote(0, 52);
            case 4 -> x.dawn();
            case 5 -> x.deposit(0, 5);
            case 6 -> x.withdraw(1, 5);
            case 7 -> x.contribute(2, 5);
            default -> Check.run(x, "pay 0 7;dawn");
        }
    }

    /** Each kind of modification as the eighth last, which can be undone, and as the ninth last, which cannot. */
    private static void eightOfEachKind() {
        for (int kind = 0; kind < 9; kind++) {
            HorizonExchange x = Places.restored();
            String before = Look.state(x);
            modify(x, kind);
            String after = Look.state(x);
            Check.same("50 a modification " + kind, after.equals(before), false);
            for (int time = 0; time < 7; time++) {
                x.setQuote(1, 60 + time);
            }
            undo(x, 8, kind);
            Check.same("50 the eighth last " + kind, Look.state(x), before);
            Check.state("50 no ninth", x::undo);
            modify(x, kind);
            for (int time = 0; time < 8; time++) {
                x.setQuote(1, 60 + time);
            }
            undo(x, 8, kind);
            Check.same("50 not the ninth last " + kind, Look.state(x), after);
            Check.state("50 no ninth", x::undo);
        }
    }

    private static void undo(HorizonExchange x, int times, int kind) {
        for (int left = times - 1; left >= 0; left--) {
            Check.same("50 left " + kind, x.undo(), left);
        }
    }

    private static void undoneAndDoneAgain() {
        HorizonExchange x = new HorizonExchange();
        x.addTrader(0);
        for (int time = 1; time <= 8; time++) {
            x.deposit(0, time);
        }
        Check.same("50 seven left", x.undo(), 7);
        x.deposit(0, 100);
        Check.same("50 the new one", x.undo() + " " + x.moneyOf(0), "7 28");
        for (int time = 0; time < 3; time++) {
            x.undo();
        }
        Check.same("50 four undone", x.moneyOf(0), 10);
        for (int time = 0; time < 5; time++) {
            x.deposit(0, 1000);
        }
        for (int left = 7; left >= 3; left--) {
            Check.same("50 the thousands", x.undo(), left);
        }
        Check.same("50 what was before them", x.moneyOf(0), 10);
        Check.same("50 the old ones", x.undo() + " " + x.moneyOf(0), "2 6");
        Check.same("50 the old ones", x.undo() + " " + x.moneyOf(0), "1 3");
        Check.same("50 the old ones", x.undo() + " " + x.moneyOf(0), "0 1");
        Check.state("50 the first is too far back", x::undo);
    }

    private static void refusedCallsAreNotAmongTheEight() {
        HorizonExchange x = Places.trouble();
        for (int time = 0; time < 8; time++) {
            x.deposit(0, 1);
        }
        for (int time = 0; time < 2; time++) {
            Check.argument("2 wrong", () -> x.addHorizon(0, 0));
            Check.argument("3 wrong", () -> x.addTrader(10000));
            Check.state("4 called", () -> x.trade(0, 2, 0, 1, 1));
            Check.index("5 no horizon", () -> x.setQuote(2, 1));
            Check.state("7 defaulted", () -> x.deposit(3, 1));
            Check.unsupported("8 too much", () -> x.withdraw(0, 9));
            Check.unsupported("9 too much", () -> x.contribute(0, 9));
            TextBoundsTest.fails(x, "dawn;pay 3 1", 1);
        }
        for (int left = 7; left >= 0; left--) {
            Check.same("50 left", x.undo() + " " + x.moneyOf(0), left + " " + (120 + left));
        }
        Check.state("50 no ninth", x::undo);
    }

    private static void emptyExchange() {
        HorizonExchange x = new HorizonExchange();
        Check.same("the empty one", Look.at(x), "line . payments 0 by groups 0 fund 0 written off 0 brought in 0 "
            + "withdrawn 0 day 0 mean ArithmeticException share ArithmeticException consistent true  malformed at "
            + "NoSuchElementException failed at NoSuchElementException");
        Check.same("10 no horizons", x.horizonCount(), 0);
        Check.same("14 no traders", x.traderCount(), 0);
        Check.same("20 no contracts", x.contractCount(), 0);
        Check.state("50 nothing", x::undo);
        Check.state("52 nothing", x::restore);
        Check.argument("47 an empty text", x::execute);
        Check.same("48 at its beginning", x.errorPosition(), 0);
        Check.same("51 no contracts", x.save(), 0);
        Check.same("6 nobody defaults", x.dawn(), 0);
        Check.same("39 one day", x.dayCount(), 1);
        Check.same("50 it is undone", x.undo() + " " + x.dayCount(), "0 0");
        Check.same("52 no contracts", x.restore(), 0);
        Check.same("40 horizons alone", Look.answer(Places.horizonsAlone()::meanMargin), "ArithmeticException");
        Check.same("41 horizons alone", Look.answer(Places.horizonsAlone()::soundShare), "ArithmeticException");
        Check.same("40 traders alone", Places.tradersAlone().meanMargin(), 0.0);
        Check.same("41 traders alone", Places.tradersAlone().soundShare(), 1.0f);
        Check.same("6 horizons alone", Places.horizonsAlone().dawn(), 0);
        Check.same("6 traders alone", Places.tradersAlone().dawn(), 0);
    }

    /** Each of the 4, 6 and 20 has its own answers. */
    private static void fullExchange() {
        HorizonExchange x = Places.full();
        for (int horizon = 0; horizon < 4; horizon++) {
            int[] quote = {20, 33, 40, 47};
            int[] open = {17, 22, 40, 12};
            Check.same("11 of " + horizon, x.priceOf(horizon), 20 + 10 * horizon);
            Check.same("12 of " + horizon, x.quoteOf(horizon), quote[horizon]);
            Check.same("13 of " + horizon, x.rangeOf(horizon), 1 + horizon);
            Check.same("19 of " + horizon, x.openQuantity(horizon), open[horizon]);
        }
        int[][] positions = {{2, -6, -8, 0}, {-1, 9, -1, -8}, {2, -7, -3, 0}, {-11, 1, 0, 6}, {8, 0, -1, -3}, {0, 3, 13, 5}};
        int[] margins = {38, 54, 25, 37, 23, 65};
        int[] variations = {-18, 51, -21, -15, 9, -6};
        for (int trader = 0; trader < 6; trader++) {
            for (int horizon = 0; horizon < 4; horizon++) {
                Check.same("18 of " + trader, x.positionOf(trader, horizon), positions[trader][horizon]);
            }
            Check.same("26 of " + trader, x.marginOf(trader), margins[trader]);
            Check.same("27 of " + trader, x.marginByPositions(trader), margins[trader]);
            Check.same("28 of " + trader, x.variationOf(trader), variations[trader]);
            Check.same("34 of " + trader, x.traderByMoney(trader), 5 - trader);
        }
        for (int contract = 0; contract < 19; contract++) {
            Check.same("21 of " + contract, x.buyerOf(contract), contract % 6);
            Check.same("22 of " + contract, x.sellerOf(contract), (contract % 6 + 1 + contract % 5) % 6);
            Check.same("23 of " + contract, x.horizonOf(contract), contract % 4);
            Check.same("24 of " + contract, x.quantityOf(contract), 1 + contract % 7);
            Check.same("25 of " + contract, x.daysLeft(contract), 1 + contract % 9);
        }
        Check.same("42 the last", Check.line(x, x.writeContract(19)), "5<0:20h2+9");
        Check.same("43 the last", Check.line(x, x.writeTrader(5)), "905/65");
        Check.same("29 variations in one group", x.payments() + " " + x.paymentsByGroups(), "5 5");
        Check.same("40 of six", x.meanMargin(), 242.0 / 6.0);
        Check.same("41 of six", x.soundShare(), 1.0f);
        Check.same("51 all twenty", x.save() + " " + x.restore(), "20 20");
    }
}
