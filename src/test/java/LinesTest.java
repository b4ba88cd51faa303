/** Promises 42 to 45: lines and the check of the whole. */
public final class LinesTest {
    public static void main(String[] args) {
        contracts();
        traders();
        characters();
        consistent();
        Check.end();
    }

    private static HorizonExchange market() {
        HorizonExchange x = new HorizonExchange();
        x.addHorizon(50, 5);
        x.addHorizon(30, 2);
        x.addTrader(200);
        x.addTrader(100);
        x.addTrader(300);
        x.addTrader(0);
        return x;
    }

    private static void contracts() {
        HorizonExchange x = market();
        Check.index("42 none", () -> x.writeContract(0));
        x.trade(0, 2, 1, 12, 5);
        x.trade(2, 1, 0, 3, 9);
        Check.same("42 length", x.writeContract(0), 10);
        Check.same("42 line", Check.line(x, 10), "0<2:12h1+5");
        Check.same("42 another", Check.line(x, x.writeContract(1)), "2<1:3h0+9");
        for (int contract : new int[] {-1, 2, 20, Integer.MIN_VALUE, Integer.MAX_VALUE}) {
            Check.index("42 " + contract, () -> x.writeContract(contract));
        }
        Check.same("42 the line stays", Check.line(x, 9), "2<1:3h0+9");
        x.dawn();
        Check.same("42 the line stays at dawn", Check.line(x, 9), "2<1:3h0+9");
        Check.same("42 a day later", Check.line(x, x.writeContract(0)), "0<2:12h1+4");
    }

    private static void traders() {
        HorizonExchange x = market();
        x.trade(0, 1, 0, 9, 9);
        Check.same("43 length", x.writeTrader(0), 6);
        Check.same("43 line", Check.line(x, 6), "200/45");
        Check.same("43 nothing", Check.line(x, x.writeTrader(3)), "0/0");
        for (int trader : new int[] {-1, 4, 6, Integer.MIN_VALUE, Integer.MAX_VALUE}) {
            Check.index("43 " + trader, () -> x.writeTrader(trader));
        }
        Check.same("43 the line stays", Check.line(x, 3), "0/0");
        x.setQuote(0, 57);
        x.dawn();
        Check.same("43 called", Check.line(x, x.writeTrader(1)), "37/45!");
        x.setQuote(0, 66);
        x.undo();
        x.deposit(1, 5);
        x.setQuote(0, 70);
        x.dawn();
        Check.same("43 defaulted", Check.line(x, x.writeTrader(1)), "0/0x");
        HorizonExchange y = market();
        y.trade(0, 1, 0, 9, 9);
        y.setQuote(0, 70);
        y.dawn();
        Check.same("43 a debt", Check.line(y, y.writeTrader(1)), "-80/45!");
    }

    private static void characters() {
        HorizonExchange x = market();
        Check.index("44 empty", () -> x.lineAt(0));
        Check.index("44 empty", () -> x.lineAt(-1));
        x.writeTrader(0);
        Check.same("44 first", x.lineAt(0), '2');
        Check.same("44 last", x.lineAt(4), '0');
        for (int index : new int[] {-1, 5, 6, Integer.MIN_VALUE, Integer.MAX_VALUE}) {
            Check.index("44 " + index, () -> x.lineAt(index));
        }
        x.writeTrader(3);
        Check.index("44 a shorter line", () -> x.lineAt(3));
    }

    private static void consistent() {
        HorizonExchange x = new HorizonExchange();
        Check.same("45 empty", x.isConsistent(), true);
        x = market();
        Check.same("45 some", x.isConsistent(), true);
        x.trade(0, 1, 0, 9, 9);
        x.trade(1, 2, 1, 9, 9);
        x.trade(2, 0, 0, 2, 9);
        x.contribute(2, 9);
        x.setQuote(0, 77);
        x.setQuote(1, 9);
        Check.same("45 with variations", x.isConsistent(), true);
        x.dawn();
        Check.same("45 with a debt", x.isConsistent(), true);
        x.withdraw(0, 5);
        x.dawn();
        Check.same("45 with a default", x.isConsistent() + " " + x.hasDefaulted(1), "true true");
        x.undo();
        Check.same("45 undone", x.isConsistent(), true);
    }
}
