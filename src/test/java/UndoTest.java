/** Promises 50 to 52: undo, save and restore. */
public final class UndoTest {
    public static void main(String[] args) {
        eachModification();
        failuresAreNone();
        questionsAreNone();
        eightAtMost();
        wholeTexts();
        wholeStates();
        shiftedContracts();
        shiftedContractsOfASnapshot();
        whatIsNotUndone();
        snapshots();
        snapshotsAreKept();
        Check.end();
    }

    private static HorizonExchange market() {
        HorizonExchange x = new HorizonExchange();
        x.addHorizon(50, 5);
        x.addTrader(100);
        x.addTrader(200);
        x.save();
        x.restore();
        return x;
    }

    private static void eachModification() {
        HorizonExchange x = market();
        Check.state("50 nothing", x::undo);
        x.addHorizon(9, 9);
        x.addTrader(3);
        x.trade(0, 1, 0, 3, 4);
        x.setQuote(0, 51);
        x.dawn();
        x.deposit(0, 11);
        x.withdraw(1, 12);
        x.contribute(1, 13);
        Check.same("50 contribute", x.undo(), 7);
        Check.same("50 fund", x.fund() + " " + x.moneyOf(1), "0 185");
        Check.same("50 withdraw", x.undo(), 6);
        Check.same("50 withdrawn", x.withdrawn() + " " + x.moneyOf(1), "0 197");
        Check.same("50 deposit", x.undo(), 5);
        Check.same("50 brought in", x.broughtIn() + " " + x.moneyOf(0), "303 103");
        Check.same("50 dawn", x.undo(), 4);
        Check.same("50 day", x.dayCount() + " " + x.moneyOf(0) + " " + x.priceOf(0), "0 100 50");
        Check.same("50 setQuote", x.undo(), 3);
        Check.same("50 quote", x.quoteOf(0), 50);
        Check.same("50 trade", x.undo(), 2);
        Check.same("50 contracts", x.contractCount(), 0);
        Check.same("50 addTrader", x.undo(), 1);
        Check.same("50 traders", x.traderCount() + " " + x.broughtIn(), "2 300");
        Check.same("50 addHorizon", x.undo(), 0);
        Check.same("50 horizons", x.horizonCount(), 1);
        Check.state("50 nothing any more", x::undo);
        Check.same("50 horizons stay", x.horizonCount(), 1);
    }

    private static void failuresAreNone() {
        HorizonExchange x = market();
        x.deposit(0, 5);
        Check.argument("50 wrong", () -> x.addHorizon(0, 0));
        Check.argument("50 wrong", () -> x.addTrader(-1));
        Check.index("50 wrong", () -> x.trade(0, 1, 7, 1, 1));
        x.withdraw(0, 50);
        Check.unsupported("50 wrong", () -> x.trade(0, 1, 0, 12, 1));
        Check.argument("50 wrong", () -> x.setQuote(0, 0));
        Check.unsupported("50 wrong", () -> x.contribute(0, 9999));
        Check.same("50 the withdrawal", x.undo(), 1);
        Check.same("50 money", x.moneyOf(0), 105);
        Check.same("50 the deposit", x.undo(), 0);
        Check.same("50 money", x.moneyOf(0), 100);
    }

    private static void questionsAreNone() {
        HorizonExchange x = market();
        x.trade(0, 1, 0, 5, 5);
        x.leastMargins(0);
        x.takerOf(0, 0);
        x.payments();
        x.isConsistent();
        x.writeContract(0);
        x.type('x');
        x.save();
        Check.same("50 the trade", x.undo(), 0);
        Check.same("50 no contract", x.contractCount(), 0);
    }

    private static void eightAtMost() {
        HorizonExchange x = market();
        for (int time = 1; time <= 20; time++) {
            x.deposit(0, time);
        }
        int money = 310;
        for (int left = 7; left >= 0; left--) {
            Check.same("50 left", x.undo(), left);
            money -= 13 + left;
            Check.same("50 money", x.moneyOf(0), money);
        }
        Check.state("50 no ninth", x::undo);
        x.deposit(0, 1);
        x.deposit(0, 2);
        Check.same("50 one of two", x.undo(), 1);
        x.deposit(0, 4);
        Check.same("50 the newer", x.undo(), 1);
        Check.same("50 money", x.moneyOf(0), money + 1);
        Check.same("50 the first", x.undo(), 0);
        Check.same("50 money", x.moneyOf(0), money);
    }

    private static void wholeTexts() {
        HorizonExchange x = market();
        x.deposit(0, 1);
        Check.run(x, "pay 0 10;pay 0 20;dawn;trader 5");
        Check.type(x, "pay 0 10;pay 9 20");
        Check.state("47 fails", x::execute);
        Check.same("50 all of the text", x.undo(), 1);
        Check.same("50 money", x.moneyOf(0) + " " + x.dayCount() + " " + x.traderCount(), "101 0 2");
        for (int time = 0; time < 9; time++) {
            Check.run(x, "dawn;dawn");
        }
        Check.same("50 texts count one each", x.undo(), 7);
        Check.same("50 days", x.dayCount(), 16);
    }

    /** A dawn with a default changes nearly everything. */
    private static void wholeStates() {
        HorizonExchange x = market();
        x.addTrader(300);
        x.addHorizon(20, 2);
        x.trade(0, 1, 0, 20, 9);
        x.trade(2, 1, 1, 5, 1);
        x.contribute(1, 9);
        x.setQuote(0, 49);
        x.setQuote(1, 30);
        x.dawn();
        x.setQuote(0, 40);
        String before = Look.state(x);
        Check.same("6 a default", x.dawn(), 1);
        Check.same("50 the dawn", x.undo(), 7);
        Check.same("50 everything", Look.state(x), before);
        Check.same("6 the same default", x.dawn(), 1);
    }

    /** At each dawn the first contract ends, so that all the others get other numbers. */
    private static void shiftedContracts() {
        HorizonExchange x = endingInTurn(3);
        for (int day = 2; day >= 0; day--) {
            x.undo();
            Check.same("50 back to day " + day, Look.state(x), Look.state(endingInTurn(day)));
        }
    }

    private static HorizonExchange endingInTurn(int dawns) {
        HorizonExchange x = market();
        x.addHorizon(20, 2);
        x.addTrader(300);
        x.trade(0, 1, 0, 3, 1);
        x.trade(1, 2, 1, 4, 2);
        x.trade(2, 0, 0, 5, 3);
        x.trade(0, 2, 1, 6, 4);
        for (int dawn = 0; dawn < dawns; dawn++) {
            x.dawn();
        }
        return x;
    }

    private static void shiftedContractsOfASnapshot() {
        HorizonExchange x = endingInTurn(0);
        String first = Look.state(x);
        x.save();
        x.dawn();
        x.trade(1, 0, 1, 7, 8);
        x.restore();
        Check.same("52 the first", Look.state(x), first);
        Check.type(x, "dawn;trade 1 0 1 7 8;quote 0 9;pay 0 1;dawn;give 0 0");
        Check.state("47 the last fails", x::execute);
        Check.same("47 everything taken back", Look.state(x), first);
    }

    private static void whatIsNotUndone() {
        HorizonExchange x = market();
        x.deposit(0, 1);
        x.writeTrader(0);
        Check.type(x, "da");
        x.undo();
        Check.same("50 the line stays", Check.line(x, 5), "101/0");
        Check.same("50 the buffer stays", x.type('w'), 3);
        x.save();
        x.type('n');
        x.restore();
        Check.same("52 the line stays", Check.line(x, 5), "101/0");
        Check.same("52 the buffer stays", x.execute(), 1);
        Check.same("47 a dawn", x.dayCount(), 1);
    }

    private static void snapshots() {
        HorizonExchange x = new HorizonExchange();
        Check.state("52 none", x::restore);
        Check.same("51 no contracts", x.save(), 0);
        x.addHorizon(50, 5);
        x.addTrader(100);
        x.addTrader(200);
        x.trade(0, 1, 0, 3, 4);
        x.trade(0, 1, 0, 3, 5);
        Check.same("51 contracts", x.save(), 2);
        Check.same("51 is no modification", x.undo(), 4);
        x.dawn();
        x.deposit(0, 7);
        String before = "1 2 2 100 0 300";
        Check.same("52 contracts", x.restore(), 2);
        Check.same("52 the state", x.horizonCount() + " " + x.traderCount() + " " + x.contractCount() + " "
            + x.moneyOf(0) + " " + x.dayCount() + " " + x.broughtIn(), before);
        Check.state("52 nothing to undo", x::undo);
        x.dawn();
        Check.same("52 then this", x.undo(), 0);
        Check.same("51 replaces", x.save() + " " + x.restore(), "2 2");
    }

    private static void snapshotsAreKept() {
        HorizonExchange z = new HorizonExchange();
        z.addHorizon(50, 5);
        z.addTrader(7);
        z.save();
        z.undo();
        z.undo();
        z.addHorizon(60, 6);
        z.addTrader(8);
        z.restore();
        Check.same("52 the horizon", z.priceOf(0) + " " + z.quoteOf(0) + " " + z.rangeOf(0), "50 50 5");
        Check.same("52 the trader", z.moneyOf(0) + " " + z.broughtIn(), "7 7");
        HorizonExchange x = market();
        x.trade(0, 1, 0, 3, 4);
        x.save();
        x.setQuote(0, 60);
        for (int day = 0; day < 5; day++) {
            x.dawn();
        }
        Check.same("52 once", x.restore(), 1);
        x.dawn();
        x.setQuote(0, 77);
        x.trade(1, 0, 0, 1, 1);
        Check.same("52 twice", x.restore(), 1);
        Check.same("52 quote", x.quoteOf(0) + " " + x.dayCount() + " " + x.daysLeft(0), "50 0 4");
        x.dawn();
        x.save();
        x.dawn();
        x.restore();
        Check.same("51 the newer", x.dayCount(), 1);
        HorizonExchange y = new HorizonExchange();
        y.dawn();
        Check.state("52 no snapshot", y::restore);
        Check.same("52 a restore that fails leaves what can be undone", y.undo(), 0);
    }
}
