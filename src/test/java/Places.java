/** Exchanges that stand at a bound: the empty one, the full one, one in trouble, and some between them. */
final class Places {
    /** 60 characters that make no text. */
    static final String SIXTY = "horizon 5 5;trader 5;quote 0 5;dawn;pay 0 5;draw 0 5;give 0 ";

    private Places() {
    }

    static HorizonExchange empty() {
        return new HorizonExchange();
    }

    /** Horizons and no traders. */
    static HorizonExchange horizonsAlone() {
        HorizonExchange x = new HorizonExchange();
        x.addHorizon(50, 5);
        x.addHorizon(30, 2);
        return x;
    }

    /** Traders and no horizons. */
    static HorizonExchange tradersAlone() {
        HorizonExchange x = new HorizonExchange();
        x.addTrader(100);
        x.addTrader(0);
        return x;
    }

    /** Something of everything, seven modifications, no snapshot. */
    static HorizonExchange some() {
        HorizonExchange x = horizonsAlone();
        x.addTrader(200);
        x.addTrader(100);
        x.addTrader(300);
        x.trade(0, 1, 0, 10, 3);
        x.trade(1, 2, 1, 5, 9);
        x.setQuote(0, 53);
        x.writeContract(1);
        return x;
    }

    /** A snapshot that is not the present state, and nothing that can be undone. */
    static HorizonExchange restored() {
        HorizonExchange x = some();
        x.save();
        x.dawn();
        x.restore();
        x.writeTrader(0);
        return x;
    }

    /** 4 horizons, 6 traders, 20 contracts, more than 8 modifications, and a snapshot of one contract less. */
    static HorizonExchange full() {
        HorizonExchange x = new HorizonExchange();
        for (int horizon = 0; horizon < 4; horizon++) {
            x.addHorizon(20 + 10 * horizon, 1 + horizon);
        }
        for (int trader = 0; trader < 6; trader++) {
            x.addTrader(900 + trader);
        }
        x.contribute(0, 7);
        x.withdraw(1, 3);
        for (int contract = 0; contract < 19; contract++) {
            int buyer = contract % 6;
            int seller = (buyer + 1 + contract % 5) % 6;
            x.trade(buyer, seller, contract % 4, 1 + contract % 7, 1 + contract % 9);
        }
        x.setQuote(1, 33);
        x.save();
        x.setQuote(3, 47);
        x.trade(5, 0, 2, 20, 9);
        x.writeContract(19);
        return x;
    }

    /** The full one, told of a malformed text and of one that failed, and with 60 characters in the buffer. */
    static HorizonExchange fullToTheBuffer() {
        HorizonExchange x = full();
        refuse(x, "dawx");
        refuse(x, "dawn;trader 1");
        Check.type(x, SIXTY);
        return x;
    }

    /**
     * Trader 0 has a position on both horizons and its margin, and 1 alone could take them over, which has its margin and
     * one coin; 2 is called, 3 has defaulted, and 4 is called for a debt of one coin.
     */
    static HorizonExchange trouble() {
        HorizonExchange x = new HorizonExchange();
        x.addHorizon(50, 5);
        x.addHorizon(50, 2);
        for (int trader = 0; trader < 5; trader++) {
            x.addTrader(200);
        }
        x.contribute(4, 195);
        x.trade(1, 3, 0, 20, 1);
        x.setQuote(0, 61);
        x.dawn();
        x.dawn();
        x.trade(0, 2, 0, 20, 9);
        x.trade(0, 1, 1, 10, 9);
        x.trade(0, 4, 1, 2, 1);
        x.setQuote(0, 68);
        x.setQuote(1, 53);
        x.dawn();
        x.withdraw(1, 369);
        x.withdraw(0, 256);
        x.setQuote(1, 51);
        x.writeTrader(3);
        return x;
    }

    private static void refuse(HorizonExchange x, String text) {
        Check.type(x, text);
        try {
            x.execute();
        } catch (IllegalArgumentException | IllegalStateException e) {
            return;
        }
        throw new AssertionError(text);
    }
}
