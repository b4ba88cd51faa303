/** Promises 35 to 41: the fund, what was written off, brought in and withdrawn, days and shares. */
public final class AccountsTest {
    public static void main(String[] args) {
        accounts();
        fundCoversDebts();
        days();
        means();
        shares();
        Check.end();
    }

    private static HorizonExchange market() {
        HorizonExchange x = new HorizonExchange();
        x.addHorizon(50, 5);
        x.addTrader(200);
        x.addTrader(100);
        x.addTrader(300);
        return x;
    }

    private static void accounts() {
        HorizonExchange x = market();
        Check.same("35 empty", x.fund(), 0);
        Check.same("37 three traders", x.broughtIn(), 600L);
        x.contribute(0, 30);
        x.contribute(2, 5);
        Check.same("35 gifts", x.fund(), 35);
        x.deposit(1, 9999);
        x.deposit(1, 1);
        Check.same("37 deposits", x.broughtIn(), 10600L);
        x.withdraw(1, 10000 / 2);
        x.withdraw(2, 7);
        Check.same("38 withdrawn", x.withdrawn(), 5007L);
        Check.same("35 not from the fund", x.fund(), 35);
        Check.same("37 a withdrawal takes nothing back", x.broughtIn(), 10600L);
        Check.unsupported("38 too much", () -> x.withdraw(0, 171));
        Check.same("38 nothing withdrawn", x.withdrawn(), 5007L);
        for (int time = 0; time < 300; time++) {
            x.deposit(0, 9999);
        }
        Check.same("37 many deposits", x.broughtIn(), 10600L + 300 * 9999);
    }

    private static void fundCoversDebts() {
        HorizonExchange x = market();
        x.contribute(2, 25);
        x.trade(0, 1, 0, 10, 9);
        x.setQuote(0, 61);
        x.dawn();
        Check.same("35 a debt alone takes nothing", x.fund() + " " + x.writtenOff(), "25 0");
        x.setQuote(0, 65);
        x.dawn();
        Check.same("35 the fund is empty", x.fund(), 0);
        Check.same("36 what the fund could not pay", x.writtenOff(), 25);
        Check.same("37 brought in", x.broughtIn(), 600L);
        x.undo();
        Check.same("36 undone", x.fund() + " " + x.writtenOff(), "25 0");
        x.deposit(1, 49);
        x.dawn();
        Check.same("36 the fund pays one coin", x.fund() + " " + x.writtenOff(), "24 0");
        x.undo();
        x.deposit(1, 30);
        x.dawn();
        Check.same("35 what is left goes to the fund", x.fund() + " " + x.writtenOff(), "54 0");
    }

    private static void days() {
        HorizonExchange x = new HorizonExchange();
        for (int day = 0; day < 12; day++) {
            Check.same("39 day", x.dayCount(), day);
            x.dawn();
        }
        x.undo();
        Check.same("39 undone", x.dayCount(), 11);
    }

    private static void means() {
        HorizonExchange none = new HorizonExchange();
        Check.arithmetic("40 nobody", none::meanMargin);
        Check.arithmetic("41 nobody", none::soundShare);
        HorizonExchange x = market();
        Check.same("40 no margins", x.meanMargin(), 0.0);
        x.trade(0, 1, 0, 4, 1);
        Check.same("40 two of three", x.meanMargin(), 40.0 / 3.0);
        x.addTrader(1);
        Check.same("40 two of four", x.meanMargin(), 10.0);
        x.trade(1, 2, 0, 1, 9);
        Check.same("40 three of four", x.meanMargin(), (20.0 + 15.0 + 5.0) / 4.0);
        x.dawn();
        Check.same("40 after a dawn", x.meanMargin(), 2.5);
    }

    private static void shares() {
        HorizonExchange x = market();
        Check.same("41 all", x.soundShare(), 1.0f);
        x.trade(0, 1, 0, 10, 9);
        x.setQuote(0, 61);
        x.dawn();
        Check.same("41 one is called", x.soundShare(), 2.0f / 3.0f);
        x.dawn();
        Check.same("41 one has defaulted", x.soundShare(), 2.0f / 3.0f);
        x.addTrader(0);
        Check.same("41 one of four", x.soundShare(), 0.75f);
    }
}
