/** Where two exceptions apply, the one that is documented first is thrown. */
public final class OrderTest {
    public static void main(String[] args) {
        addHorizon();
        addTrader();
        tradeNumbersFirst();
        tradeArgumentsSecond();
        tradeStateThird();
        setQuote();
        deposit();
        withdraw();
        contribute();
        leastMargins();
        takerOf();
        type();
        execute();
        Check.end();
    }

    private static void addHorizon() {
        HorizonExchange x = Places.full();
        Check.state("2 full", () -> x.addHorizon(50, 5));
        Check.argument("2 full, price too small", () -> x.addHorizon(0, 5));
        Check.argument("2 full, price too great", () -> x.addHorizon(100, 5));
        Check.argument("2 full, range too small", () -> x.addHorizon(50, 0));
        Check.argument("2 full, range too great", () -> x.addHorizon(50, 21));
        Check.argument("2 full, both wrong", () -> x.addHorizon(Integer.MIN_VALUE, Integer.MAX_VALUE));
    }

    private static void addTrader() {
        HorizonExchange x = Places.full();
        Check.state("3 full", () -> x.addTrader(0));
        Check.argument("3 full, money too small", () -> x.addTrader(-1));
        Check.argument("3 full, money too great", () -> x.addTrader(10000));
    }

    private static void tradeNumbersFirst() {
        HorizonExchange x = Places.some();
        Check.index("4 no buyer, alike", () -> x.trade(3, 3, 0, 1, 1));
        Check.index("4 no buyer, alike", () -> x.trade(-1, -1, 0, 1, 1));
        Check.index("4 no horizon, alike", () -> x.trade(0, 0, 2, 1, 1));
        Check.index("4 no buyer, quantity", () -> x.trade(3, 0, 0, 0, 1));
        Check.index("4 no seller, quantity", () -> x.trade(0, 3, 0, 21, 1));
        Check.index("4 no horizon, quantity", () -> x.trade(0, 1, 2, 0, 1));
        Check.index("4 no buyer, days", () -> x.trade(-1, 0, 0, 1, 0));
        Check.index("4 no seller, days", () -> x.trade(0, -1, 0, 1, 10));
        Check.index("4 no horizon, days", () -> x.trade(0, 1, -1, 1, 10));
        HorizonExchange full = Places.full();
        Check.state("4 full", () -> full.trade(0, 1, 0, 1, 1));
        Check.index("4 full, no buyer", () -> full.trade(6, 1, 0, 1, 1));
        Check.index("4 full, no seller", () -> full.trade(0, 6, 0, 1, 1));
        Check.index("4 full, no horizon", () -> full.trade(0, 1, 4, 1, 1));
        HorizonExchange trouble = Places.trouble();
        Check.index("4 called, no seller", () -> trouble.trade(2, 5, 0, 1, 1));
        Check.index("4 called, no buyer", () -> trouble.trade(5, 2, 0, 1, 1));
        Check.index("4 called, no horizon", () -> trouble.trade(0, 2, 2, 1, 1));
        Check.index("4 defaulted, no horizon", () -> trouble.trade(3, 0, -1, 1, 1));
        Check.index("4 too little money, no seller", () -> trouble.trade(0, 5, 0, 20, 1));
        Check.index("4 too little money, no horizon", () -> trouble.trade(0, 1, 2, 20, 1));
    }

    private static void tradeArgumentsSecond() {
        HorizonExchange full = Places.full();
        Check.argument("4 full, alike", () -> full.trade(1, 1, 0, 1, 1));
        Check.argument("4 full, quantity", () -> full.trade(0, 1, 0, 0, 1));
        Check.argument("4 full, quantity", () -> full.trade(0, 1, 0, 21, 1));
        Check.argument("4 full, days", () -> full.trade(0, 1, 0, 1, 0));
        Check.argument("4 full, days", () -> full.trade(0, 1, 0, 1, 10));
        HorizonExchange x = Places.trouble();
        Check.argument("4 called, alike", () -> x.trade(2, 2, 0, 1, 1));
        Check.argument("4 defaulted, alike", () -> x.trade(3, 3, 0, 1, 1));
        Check.argument("4 called, quantity", () -> x.trade(2, 0, 0, 0, 1));
        Check.argument("4 called, days", () -> x.trade(0, 2, 0, 1, 10));
        Check.argument("4 defaulted, quantity", () -> x.trade(0, 3, 0, 21, 1));
        Check.argument("4 defaulted, days", () -> x.trade(3, 0, 0, 1, 0));
        Check.argument("4 too little money, alike", () -> x.trade(0, 0, 0, 20, 1));
        Check.argument("4 too little money, quantity", () -> x.trade(0, 1, 0, 21, 1));
        Check.argument("4 too little money, days", () -> x.trade(0, 1, 0, 20, 10));
    }

    private static void tradeStateThird() {
        HorizonExchange x = Places.trouble();
        Check.unsupported("4 too little money", () -> x.trade(0, 1, 0, 1, 1));
        Check.state("4 too little money, a called seller", () -> x.trade(0, 2, 0, 1, 1));
        Check.state("4 too little money, a called buyer", () -> x.trade(2, 1, 0, 20, 1));
        Check.state("4 too little money, a defaulted seller", () -> x.trade(0, 3, 0, 20, 1));
        Check.state("4 too little money, a defaulted buyer", () -> x.trade(3, 0, 0, 20, 1));
        Check.state("4 both not sound", () -> x.trade(2, 3, 0, 20, 1));
        HorizonExchange y = new HorizonExchange();
        y.addHorizon(50, 20);
        y.addTrader(20);
        y.addTrader(20);
        for (int contract = 0; contract < 20; contract++) {
            y.trade(contract % 2, 1 - contract % 2, 0, 1, 9);
        }
        Check.state("4 full, too little money", () -> y.trade(0, 1, 0, 20, 1));
        y.undo();
        Check.unsupported("4 one less, too little money", () -> y.trade(0, 1, 0, 1, 1));
    }

    private static void setQuote() {
        HorizonExchange x = Places.some();
        for (int horizon : new int[] {-1, 2, Integer.MAX_VALUE}) {
            for (int quote : new int[] {0, 100, Integer.MIN_VALUE}) {
                Check.index("5 no horizon, quote", () -> x.setQuote(horizon, quote));
            }
        }
        Check.index("5 none at all, quote", () -> Places.empty().setQuote(0, 0));
    }

    private static void deposit() {
        HorizonExchange x = Places.trouble();
        for (int amount : new int[] {0, 10000, Integer.MIN_VALUE}) {
            Check.index("7 no trader, amount", () -> x.deposit(5, amount));
            Check.index("7 no trader, amount", () -> x.deposit(-1, amount));
            Check.argument("7 defaulted, amount", () -> x.deposit(3, amount));
        }
        Check.state("7 defaulted", () -> x.deposit(3, 9999));
    }

    private static void withdraw() {
        HorizonExchange x = Places.trouble();
        for (int amount : new int[] {0, 10000, Integer.MAX_VALUE}) {
            Check.index("8 no trader, amount", () -> x.withdraw(5, amount));
            Check.index("8 no trader, amount", () -> x.withdraw(-1, amount));
            Check.argument("8 defaulted, amount", () -> x.withdraw(3, amount));
            Check.argument("8 too little money, amount", () -> x.withdraw(0, amount));
            Check.argument("8 called, amount", () -> x.withdraw(2, amount));
        }
        Check.state("8 defaulted, too little money", () -> x.withdraw(3, 1));
        Check.state("8 defaulted, too little money", () -> x.withdraw(3, 9999));
        Check.unsupported("8 too little money", () -> x.withdraw(0, 1));
    }

    private static void contribute() {
        HorizonExchange x = Places.trouble();
        for (int amount : new int[] {0, 10000, Integer.MAX_VALUE}) {
            Check.index("9 no trader, amount", () -> x.contribute(5, amount));
            Check.index("9 no trader, amount", () -> x.contribute(-1, amount));
            Check.argument("9 defaulted, amount", () -> x.contribute(3, amount));
            Check.argument("9 too little money, amount", () -> x.contribute(0, amount));
            Check.argument("9 called, amount", () -> x.contribute(2, amount));
        }
        Check.state("9 defaulted, too little money", () -> x.contribute(3, 1));
        Check.state("9 defaulted, too little money", () -> x.contribute(3, 9999));
        Check.unsupported("9 too little money", () -> x.contribute(0, 1));
    }

    /** Nobody is left as a taker, but one that has defaulted has no position that would need one. */
    private static void leastMargins() {
        HorizonExchange x = Places.trouble();
        Check.state("31 defaulted", () -> x.leastMargins(3));
        Check.state("32 defaulted", () -> x.leastMarginsBySets(3));
        Check.unsupported("31 one for two", () -> x.leastMargins(0));
        Check.unsupported("32 one for two", () -> x.leastMarginsBySets(0));
        Check.index("31 no trader", () -> x.leastMargins(5));
        Check.index("32 no trader", () -> x.leastMarginsBySets(5));
    }

    private static void takerOf() {
        HorizonExchange x = Places.trouble();
        Check.index("33 no trader, no horizon", () -> x.takerOf(5, 2));
        Check.index("33 no horizon, defaulted", () -> x.takerOf(3, 2));
        Check.index("33 no horizon, defaulted", () -> x.takerOf(3, -1));
        Check.index("33 no horizon, too few takers", () -> x.takerOf(0, 2));
        Check.index("33 no horizon, too few takers", () -> x.takerOf(0, Integer.MAX_VALUE));
        Check.state("33 defaulted, no position", () -> x.takerOf(3, 0));
        Check.unsupported("33 too few takers", () -> x.takerOf(0, 0));
        x.addHorizon(9, 9);
        Check.unsupported("33 too few takers, no position", () -> x.takerOf(0, 2));
        Check.state("33 defaulted, no position", () -> x.takerOf(3, 2));
        Check.noElement("33 no position", () -> x.takerOf(1, 2));
    }

    private static void type() {
        HorizonExchange x = Places.fullToTheBuffer();
        Check.state("46 full", () -> x.type(' '));
        for (char character : new char[] {0, 31, 127, 255, 65535}) {
            Check.argument("46 full, character " + (int) character, () -> x.type(character));
        }
    }

    /** The first command would fail, and the text is malformed behind it. */
    private static void execute() {
        for (String text : new String[] {"pay 9 1;", "pay 9 1;dawn;x", "quote 9 0;;", "horizon 0 0;dawn dawn"}) {
            HorizonExchange x = Places.some();
            Check.type(x, text);
            Check.argument("47 would fail, malformed: " + text, x::execute);
            Check.noElement("49 none failed: " + text, x::failedCommand);
        }
    }
}
