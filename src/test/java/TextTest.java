/** Promises 46 to 49: the buffer, the texts and what is told of those that are malformed or fail. */
public final class TextTest {
    public static void main(String[] args) {
        type();
        everyCommand();
        malformed();
        wellFormed();
        allOrNothing();
        failures();
        longTexts();
        remembered();
        Check.end();
    }

    private static void type() {
        HorizonExchange x = new HorizonExchange();
        for (char character : new char[] {0, 10, 31, 127, 128, 255, 256, (char) 65535}) {
            Check.argument("46 " + (int) character, () -> x.type(character));
        }
        Check.same("46 least", x.type(' '), 1);
        Check.same("46 most", x.type('~'), 2);
        for (int length = 3; length <= 60; length++) {
            Check.same("46 length", x.type('x'), length);
        }
        Check.state("46 full", () -> x.type('x'));
        Check.argument("46 full, and wrong", () -> x.type((char) 31));
        Check.argument("47 malformed", x::execute);
        Check.same("46 empty again", x.type('x'), 1);
    }

    private static void everyCommand() {
        HorizonExchange x = new HorizonExchange();
        Check.same("47 horizons", Check.run(x, "horizon 50 5;horizon 7 20"), 2);
        Check.same("47 price and range", x.priceOf(1) + " " + x.rangeOf(1), "7 20");
        Check.same("47 traders", Check.run(x, "trader 9999;trader 0300;trader 7"), 3);
        Check.same("47 money", x.moneyOf(0) + " " + x.moneyOf(1) + " " + x.moneyOf(2), "9999 300 7");
        Check.same("47 trade", Check.run(x, "trade 0 1 0 12 9"), 1);
        Check.same("47 contract", Check.line(x, x.writeContract(0)), "0<1:12h0+9");
        Check.same("47 quote", Check.run(x, "quote 0 49;quote 1 9"), 2);
        Check.same("47 quotes", x.quoteOf(0) + " " + x.quoteOf(1), "49 9");
        Check.same("47 dawn", Check.run(x, "dawn"), 1);
        Check.same("47 day", x.dayCount() + " " + x.moneyOf(1), "1 312");
        Check.same("47 pay", Check.run(x, "pay 2 93"), 1);
        Check.same("47 money", x.moneyOf(2), 100);
        Check.same("47 draw", Check.run(x, "draw 2 1;draw 2 0009"), 2);
        Check.same("47 money", x.moneyOf(2) + " " + x.withdrawn(), "90 10");
        Check.same("47 give", Check.run(x, "give 2 40"), 1);
        Check.same("47 money", x.moneyOf(2) + " " + x.fund(), "50 40");
        Check.same("47 all in one", Check.run(x, "pay 2 1;draw 2 1;give 2 1;dawn;quote 0 50"), 5);
        Check.same("47 what they did", x.moneyOf(2) + " " + x.dayCount() + " " + x.quoteOf(0), "49 2 50");
        Check.noElement("48 none was malformed", x::errorPosition);
        Check.noElement("49 none failed", x::failedCommand);
    }

    private static void wrongAt(String text, int position) {
        HorizonExchange x = new HorizonExchange();
        Check.type(x, text);
        Check.argument("47 \"" + text + "\"", x::execute);
        Check.same("48 \"" + text + "\"", x.errorPosition(), position);
        Check.same("47 nothing done by \"" + text + "\"", x.dayCount() + x.traderCount() + x.horizonCount(), 0);
        Check.noElement("49 \"" + text + "\"", x::failedCommand);
        Check.state("50 \"" + text + "\"", x::undo);
    }

    private static void malformed() {
        wrongAt("", 0);
        wrongAt(" ", 0);
        wrongAt(";", 0);
        wrongAt("x", 0);
        wrongAt("Dawn", 0);
        wrongAt("d", 1);
        wrongAt("da", 2);
        wrongAt("dx", 1);
        wrongAt("dax", 2);
        wrongAt("drx", 2);
        wrongAt("dawm", 3);
        wrongAt("dawn ", 4);
        wrongAt("dawnn", 4);
        wrongAt("dawn;", 5);
        wrongAt("dawn; dawn", 5);
        wrongAt("dawn;;dawn", 5);
        wrongAt("dawn;da", 7);
        wrongAt("dawn dawn", 4);
        wrongAt(" dawn", 0);
        wrongAt("trade", 5);
        wrongAt("tradex", 5);
        wrongAt("tradd", 4);
        wrongAt("trader", 6);
        wrongAt("traderx", 6);
        wrongAt("traders 1", 6);
        wrongAt("trader ", 7);
        wrongAt("trader x", 7);
        wrongAt("trader  1", 7);
        wrongAt("trader 12345", 11);
        wrongAt("trader 1234 ", 11);
        wrongAt("trader 12 3", 9);
        wrongAt("trader -1", 7);
        wrongAt("trader 1:", 8);
        wrongAt("trader 1/", 8);
        wrongAt("trade 0 1 0 10 1 ", 16);
        wrongAt("trade 0 1 0 10", 14);
        wrongAt("trade 0 1 0 100 1", 14);
        wrongAt("trade 01", 7);
        wrongAt("trade 0 11", 9);
        wrongAt("trade 0 1 00", 11);
        wrongAt("trade 0 1 0 5 10", 15);
        wrongAt("horizon 50", 10);
        wrongAt("horizon 50;", 10);
        wrongAt("horizon 500 5", 10);
        wrongAt("horizon 5 500", 12);
        wrongAt("horizon5 5", 7);
        wrongAt("horizons", 7);
        wrongAt("quote 10 5", 7);
        wrongAt("quote 1 555", 10);
        wrongAt("quote 1", 7);
        wrongAt("quit", 2);
        wrongAt("pay 0 12345", 10);
        wrongAt("pay 12 5", 5);
        wrongAt("pay", 3);
        wrongAt("draw 0", 6);
        wrongAt("draw 0 ", 7);
        wrongAt("give 0 0;x", 9);
        wrongAt("give 0 0;give 0 x", 16);
        wrongAt("gave", 1);
        wrongAt("trader 5;dawn;horizon 5 5 5", 25);
        wrongAt("dawn;dawn;dawn;dawn;dawn;dawn;dawn;dawn;dawn;dawn;dawn;dawn;", 60);
        wrongAt("dawn;dawn;dawn;dawn;dawn;dawn;dawn;dawn;dawn;dawn;dawn;dawnx", 59);
    }

    private static void wellFormed() {
        HorizonExchange x = new HorizonExchange();
        String twelve = "dawn;dawn;dawn;dawn;dawn;dawn;dawn;dawn;dawn;dawn;dawn;dawn";
        Check.same("47 twelve commands", Check.run(x, twelve), 12);
        Check.same("47 twelve dawns", x.dayCount(), 12);
        Check.same("47 digits", Check.run(x, "horizon 05 09;horizon 5 9;trader 0;trader 0007"), 4);
        Check.same("47 numbers", x.priceOf(0) + x.rangeOf(0) + x.priceOf(1) + x.rangeOf(1) + x.moneyOf(1), 35);
    }

    private static void allOrNothing() {
        HorizonExchange x = new HorizonExchange();
        x.addHorizon(50, 5);
        x.addTrader(100);
        x.addTrader(100);
        x.undo();
        Check.type(x, "trader 5;pay 0 9;trade 0 1 0 1 9;dawn;quote 0 7;pay 2 1");
        Check.state("47 the last fails", x::execute);
        Check.same("49 the last", x.failedCommand(), 5);
        Check.same("47 traders taken back", x.traderCount(), 1);
        Check.same("47 money taken back", x.moneyOf(0), 100);
        Check.same("47 contract taken back", x.contractCount(), 0);
        Check.same("47 day taken back", x.dayCount(), 0);
        Check.same("47 quote taken back", x.quoteOf(0), 50);
        Check.same("47 accounts taken back", x.broughtIn(), 100L);
        Check.noElement("48 not malformed", x::errorPosition);
        Check.same("47 the buffer is empty", x.type('d'), 1);
        Check.same("50 nothing new to undo", x.undo(), 1);
        Check.same("50 what was undone", x.traderCount() + " " + x.horizonCount(), "0 1");
        Check.type(x, "awn;trader 10000");
        Check.argument("47 malformed behind a good one", x::execute);
        Check.same("47 nothing done", x.dayCount(), 0);
    }

    private static void failsAt(HorizonExchange x, String text, int index) {
        Check.type(x, text);
        Check.state("47 \"" + text + "\"", x::execute);
        Check.same("49 \"" + text + "\"", x.failedCommand(), index);
    }

    private static void failures() {
        HorizonExchange x = new HorizonExchange();
        failsAt(x, "horizon 0 5", 0);
        failsAt(x, "horizon 5 21", 0);
        failsAt(x, "horizon 5 5;horizon 5 5;horizon 5 5;horizon 5 5;horizon 5 5", 4);
        failsAt(x, "dawn;trade 0 1 0 1 1", 1);
        failsAt(x, "quote 0 5", 0);
        failsAt(x, "trader 1;quote 0 5", 1);
        failsAt(x, "trader 1;pay 1 1", 1);
        failsAt(x, "trader 1;pay 0 0", 1);
        failsAt(x, "trader 1;draw 0 2", 1);
        failsAt(x, "trader 1;give 0 2", 1);
        failsAt(x, "trader 1;draw 0 1;draw 0 1", 2);
        failuresOfTrades();
    }

    private static void failuresOfTrades() {
        HorizonExchange x = new HorizonExchange();
        failsAt(x, "trader 1;trader 1;horizon 5 5;trade 0 1 0 1 1", 3);
        failsAt(x, "trader 9;trader 9;horizon 5 5;trade 0 1 0 1 0", 3);
        failsAt(x, "trader 9;trader 9;horizon 5 5;trade 0 0 0 1 1", 3);
        failsAt(x, "trader 9;trader 9;horizon 5 5;trade 0 1 0 21 1", 3);
        Check.same("47 and just within", Check.run(x, "trader 5;trader 5;horizon 5 5;trade 0 1 0 1 1"), 4);
        failsAt(x, "pay 0 1;give 9 1", 1);
        failsAt(x, "trader 1;trader 1;trader 1;trader 1;trader 1", 4);
    }

    private static void longTexts() {
        HorizonExchange x = new HorizonExchange();
        String text = "trader 1000;trader 1000;horizon 50 05;trade 0 1 0 10 9;dawn;";
        Check.type(x, text);
        Check.state("46 full", () -> x.type('d'));
        Check.argument("47 ends too early", x::execute);
        Check.same("48 at its end", x.errorPosition(), 60);
        Check.same("47 without its last", Check.run(x, text.substring(0, 59)), 5);
    }

    private static void remembered() {
        HorizonExchange x = new HorizonExchange();
        Check.noElement("48 none", x::errorPosition);
        Check.noElement("49 none", x::failedCommand);
        x.save();
        Check.type(x, "dawn;pay 0 1");
        Check.state("47 fails", x::execute);
        Check.type(x, "dawx");
        Check.argument("47 malformed", x::execute);
        Check.same("47 good", Check.run(x, "dawn"), 1);
        Check.same("48 stays", x.errorPosition(), 3);
        Check.same("49 stays", x.failedCommand(), 1);
        x.undo();
        Check.same("48 is not undone", x.errorPosition(), 3);
        Check.same("49 is not undone", x.failedCommand(), 1);
        x.restore();
        Check.same("48 is not restored", x.errorPosition(), 3);
        Check.same("49 is not restored", x.failedCommand(), 1);
        Check.type(x, "pay 0 1");
        Check.state("47 fails", x::execute);
        Check.same("49 the last", x.failedCommand(), 0);
        Check.argument("47 empty", x::execute);
        Check.same("48 the last", x.errorPosition(), 0);
    }
}
