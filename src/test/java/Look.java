import java.util.function.Supplier;

/** What can be asked for without changing anything but the line, as a text that two exchanges can be compared by. */
final class Look {
    private Look() {
    }

    /** Every answer: the state, and what is no part of the state that is undone, saved and restored. */
    static String at(HorizonExchange x) {
        return state(x) + " malformed at " + answer(x::errorPosition) + " failed at " + answer(x::failedCommand);
    }

    /** Every answer but for what execute leaves of a text that it refuses; 250 calls for a full exchange. */
    static String state(HorizonExchange x) {
        StringBuilder all = new StringBuilder("line ").append(line(x));
        horizons(x, all);
        traders(x, all);
        contracts(x, all);
        put(all, " payments", x::payments);
        put(all, "by groups", x::paymentsByGroups);
        put(all, "fund", x::fund);
        put(all, "written off", x::writtenOff);
        put(all, "brought in", x::broughtIn);
        put(all, "withdrawn", x::withdrawn);
        put(all, "day", x::dayCount);
        put(all, "mean", x::meanMargin);
        put(all, "share", x::soundShare);
        put(all, "consistent", x::isConsistent);
        return all.toString();
    }

    /** What texts change, in at most 20 calls, as an object is made for 512. */
    static String brief(HorizonExchange x) {
        StringBuilder all = new StringBuilder();
        for (int horizon = x.horizonCount() - 1; horizon >= 0; horizon--) {
            all.append(x.quoteOf(horizon)).append(' ');
        }
        for (int trader = x.traderCount() - 1; trader >= 0; trader--) {
            all.append(x.moneyOf(trader)).append(' ');
        }
        all.append(x.contractCount()).append(' ').append(x.dayCount()).append(' ').append(x.fund()).append(' ');
        return all.append(x.broughtIn()).append(' ').append(x.withdrawn()).toString();
    }

    private static void horizons(HorizonExchange x, StringBuilder all) {
        for (int horizon = 0; horizon < x.horizonCount(); horizon++) {
            int number = horizon;
            put(all, " horizon", () -> number);
            put(all, "price", () -> x.priceOf(number));
            put(all, "quote", () -> x.quoteOf(number));
            put(all, "range", () -> x.rangeOf(number));
            put(all, "open", () -> x.openQuantity(number));
        }
    }

    private static void traders(HorizonExchange x, StringBuilder all) {
        for (int trader = 0; trader < x.traderCount(); trader++) {
            int number = trader;
            put(all, " trader", () -> number);
            put(all, "money", () -> x.moneyOf(number));
            put(all, "called", () -> x.isCalled(number));
            put(all, "defaulted", () -> x.hasDefaulted(number));
            put(all, "margin", () -> x.marginOf(number));
            put(all, "by positions", () -> x.marginByPositions(number));
            put(all, "variation", () -> x.variationOf(number));
            put(all, "least", () -> x.leastMargins(number));
            put(all, "by sets", () -> x.leastMarginsBySets(number));
            put(all, "at rank", () -> x.traderByMoney(number));
            for (int horizon = 0; horizon < x.horizonCount(); horizon++) {
                int on = horizon;
                put(all, "position", () -> x.positionOf(number, on));
                put(all, "taker", () -> x.takerOf(number, on));
            }
        }
    }

    private static void contracts(HorizonExchange x, StringBuilder all) {
        for (int contract = 0; contract < x.contractCount(); contract++) {
            int number = contract;
            put(all, " contract", () -> number);
            put(all, "buyer", () -> x.buyerOf(number));
            put(all, "seller", () -> x.sellerOf(number));
            put(all, "on", () -> x.horizonOf(number));
            put(all, "quantity", () -> x.quantityOf(number));
            put(all, "left", () -> x.daysLeft(number));
        }
    }

    private static void put(StringBuilder all, String name, Supplier<?> question) {
        all.append(name).append(' ').append(answer(question)).append(' ');
    }

    /** The line as it stands, without writing it anew. */
    static String line(HorizonExchange x) {
        StringBuilder line = new StringBuilder();
        try {
            while (line.length() < 100) {
                line.append(x.lineAt(line.length()));
            }
        } catch (IndexOutOfBoundsException e) {
            return line.append('.').toString();
        }
        return line.toString();
    }

    static String answer(Supplier<?> call) {
        try {
            return String.valueOf(call.get());
        } catch (RuntimeException e) {
            return e.getClass().getSimpleName();
        }
    }
}
