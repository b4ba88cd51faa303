import java.util.NoSuchElementException;
import java.util.function.Supplier;

/** Every number that a call may be given: the last that is allowed and the first that is not, on both sides. */
public final class NumberBoundsTest {
    private static final int LEAST_INT = Integer.MIN_VALUE;
    private static final int GREATEST_INT = Integer.MAX_VALUE;

    /** A call with one number that is looked at. */
    private interface Call {
        Object of(HorizonExchange x, int value);
    }

    public static void main(String[] args) {
        prices();
        ranges();
        moneyOfTraders();
        quantities();
        days();
        quotes();
        amounts();
        characters();
        for (Place place : Place.values()) {
            horizonNumbers(place);
            traderNumbers(place);
            contractNumbers(place);
            ranks(place);
            lineIndexes(place);
        }
        tradeNumbers();
        Check.end();
    }

    private enum Place {
        EMPTY(Places::empty, 0, 0, 0, 0), HORIZONS_ALONE(Places::horizonsAlone, 2, 0, 0, 0),
        TRADERS_ALONE(Places::tradersAlone, 0, 2, 0, 0), SOME(Places::some, 2, 3, 2, 9),
        RESTORED(Places::restored, 2, 3, 2, 6), TROUBLE(Places::trouble, 2, 5, 2, 4),
        FULL(Places::full, 4, 6, 20, 10), FULL_TO_THE_BUFFER(Places::fullToTheBuffer, 4, 6, 20, 10);

        private final Supplier<HorizonExchange> build;
        private final int horizons;
        private final int traders;
        private final int contracts;
        private final int line;

        Place(Supplier<HorizonExchange> build, int horizons, int traders, int contracts, int line) {
            this.build = build;
            this.horizons = horizons;
            this.traders = traders;
            this.contracts = contracts;
            this.line = line;
        }
    }

    /** What the call answers must be the value itself, within the bounds; outside of them it must refuse the value. */
    private static void within(String what, int least, int most, Supplier<HorizonExchange> build, Call call) {
        for (int value : new int[] {least, least + 1, (least + most) / 2, most - 1, most}) {
            Check.same(what + " " + value, call.of(build.get(), value), value);
        }
        int[] wrong = {least - 1, least - 2, -least, -most, most + 1, most + 2, LEAST_INT, LEAST_INT + 1, -1,
            GREATEST_INT, GREATEST_INT - 1, least + 256, least + 65536, least - 256, most - 65536, LEAST_INT + least,
            LEAST_INT + most};
        for (int value : wrong) {
            if (value < least || value > most) {
                HorizonExchange x = build.get();
                Check.argument(what + " " + value, () -> call.of(x, value));
            }
        }
    }

    /** Numbers of something of which there are some: each has an answer, and no other number has. */
    private static void numbers(String what, int count, Supplier<HorizonExchange> build, Class<?> why, Call call) {
        for (int value = 0; value < count; value++) {
            String answer = String.valueOf(call.of(build.get(), value));
            Check.same(what + " " + value + " of " + count, answer.isEmpty(), false);
        }
        int[] wrong = {-1, -2, count, count + 1, -count - 1, 256, 65536, -256, -65536, LEAST_INT, LEAST_INT + 1,
            GREATEST_INT, GREATEST_INT - 1};
        for (int value : wrong) {
            HorizonExchange x = build.get();
            Check.thrown(what + " " + value + " of " + count, () -> call.of(x, value), why);
        }
    }

    private static void indexes(String what, int count, Supplier<HorizonExchange> build, Call call) {
        numbers(what, count, build, IndexOutOfBoundsException.class, call);
    }

    private static void prices() {
        within("2 price, the price", 1, 99, Places::empty, (x, v) -> x.priceOf(x.addHorizon(v, 5)));
        within("2 price, the quote at first", 1, 99, Places::empty, (x, v) -> x.quoteOf(x.addHorizon(v, 5)));
        within("2 price of a fourth", 1, 99, () -> horizons(3), (x, v) -> x.priceOf(x.addHorizon(v, 20)));
    }

    private static void ranges() {
        within("2 range", 1, 20, Places::empty, (x, v) -> x.rangeOf(x.addHorizon(50, v)));
        within("2 range of a fourth", 1, 20, () -> horizons(3), (x, v) -> x.rangeOf(x.addHorizon(99, v)));
    }

    private static HorizonExchange horizons(int count) {
        HorizonExchange x = new HorizonExchange();
        for (int horizon = 0; horizon < count; horizon++) {
            x.addHorizon(1, 1);
        }
        return x;
    }

    private static void moneyOfTraders() {
        within("3 money", 0, 9999, Places::empty, (x, v) -> x.moneyOf(x.addTrader(v)));
        within("3 money of a third", 0, 9999, Places::tradersAlone, (x, v) -> x.moneyOf(x.addTrader(v)));
        within("3 money that is brought in", 0, 9999, Places::empty, (x, v) -> {
            x.addTrader(v);
            return x.broughtIn();
        });
    }

    private static HorizonExchange rich() {
        HorizonExchange x = new HorizonExchange();
        x.addHorizon(50, 20);
        x.addTrader(9999);
        x.addTrader(9999);
        return x;
    }

    private static void quantities() {
        within("4 quantity", 1, 20, NumberBoundsTest::rich, (x, v) -> x.quantityOf(x.trade(0, 1, 0, v, 5)));
        within("4 quantity, the position", 1, 20, NumberBoundsTest::rich, (x, v) -> {
            x.trade(0, 1, 0, v, 5);
            return x.positionOf(0, 0);
        });
    }

    /** A contract of so many days is there until so many dawns have come. */
    private static void days() {
        within("4 days", 1, 9, NumberBoundsTest::rich, (x, v) -> x.daysLeft(x.trade(0, 1, 0, 5, v)));
        within("4 days, the dawns that come", 1, 9, NumberBoundsTest::rich, (x, v) -> {
            x.dawn();
            x.trade(0, 1, 0, 5, v);
            int dawns = 0;
            while (x.contractCount() > 0 && dawns < 20) {
                Check.same("25 days left", x.daysLeft(0), v - dawns);
                x.dawn();
                dawns++;
            }
            return dawns;
        });
    }

    private static void quotes() {
        within("5 quote", 1, 99, Places::horizonsAlone, (x, v) -> {
            Check.same("5 the previous quote", x.setQuote(1, v), 30);
            return x.quoteOf(1);
        });
        within("5 quote, the price from the next dawn on", 1, 99, Places::horizonsAlone, (x, v) -> {
            x.setQuote(0, v);
            x.dawn();
            return x.priceOf(0);
        });
    }

    private static void amounts() {
        within("7 amount", 1, 9999, Places::tradersAlone, (x, v) -> x.deposit(0, v) - 100);
        within("7 amount, to nothing", 1, 9999, Places::tradersAlone, (x, v) -> x.deposit(1, v));
        within("8 amount", 1, 9999, NumberBoundsTest::rich, (x, v) -> 9999 - x.withdraw(1, v));
        within("8 amount that is withdrawn", 1, 9999, NumberBoundsTest::rich, (x, v) -> {
            x.withdraw(1, v);
            return x.withdrawn();
        });
        within("9 amount", 1, 9999, NumberBoundsTest::rich, (x, v) -> x.contribute(1, v));
        within("9 amount that the trader gave", 1, 9999, NumberBoundsTest::rich, (x, v) -> {
            x.contribute(1, v);
            return 9999 - x.moneyOf(1);
        });
    }

    private static void characters() {
        for (int code = 0; code < 65536; code++) {
            char character = (char) code;
            if (code < 300 || code % 256 < 130 && code % 256 > 28) {
                HorizonExchange x = new HorizonExchange();
                String due = code >= 32 && code <= 126 ? "1" : "IllegalArgumentException";
                Check.same("46 character " + code, Look.answer(() -> x.type(character)), due);
            }
        }
        Check.argument("46 the greatest character", () -> new HorizonExchange().type(Character.MAX_VALUE));
        Check.argument("46 the least character", () -> new HorizonExchange().type(Character.MIN_VALUE));
    }

    private static void horizonNumbers(Place at) {
        indexes("5 setQuote " + at, at.horizons, at.build, (x, v) -> x.setQuote(v, 50));
        indexes("11 priceOf " + at, at.horizons, at.build, (x, v) -> x.priceOf(v));
        indexes("12 quoteOf " + at, at.horizons, at.build, (x, v) -> x.quoteOf(v));
        indexes("13 rangeOf " + at, at.horizons, at.build, (x, v) -> x.rangeOf(v));
        indexes("19 openQuantity " + at, at.horizons, at.build, (x, v) -> x.openQuantity(v));
        boolean somebody = at.traders > 0;
        indexes("18 positionOf, horizon " + at, somebody ? at.horizons : 0, at.build, (x, v) -> x.positionOf(0, v));
        indexes("33 takerOf, horizon " + at, somebody ? at.horizons : 0, at.build, (x, v) -> tried(() -> x.takerOf(0, v)));
        Check.same("10 horizons " + at, at.build.get().horizonCount(), at.horizons);
    }

    /** An answer for every number that there is, even if the state does not allow the call. */
    private static Object tried(Supplier<Object> call) {
        try {
            return call.get();
        } catch (IllegalStateException | UnsupportedOperationException | NoSuchElementException e) {
            return e;
        }
    }

    private static void traderNumbers(Place at) {
        indexes("7 deposit " + at, at.traders, at.build, (x, v) -> tried(() -> x.deposit(v, 1)));
        indexes("8 withdraw " + at, at.traders, at.build, (x, v) -> tried(() -> x.withdraw(v, 1)));
        indexes("9 contribute " + at, at.traders, at.build, (x, v) -> tried(() -> x.contribute(v, 1)));
        indexes("15 moneyOf " + at, at.traders, at.build, (x, v) -> x.moneyOf(v));
        indexes("16 isCalled " + at, at.traders, at.build, (x, v) -> x.isCalled(v));
        indexes("17 hasDefaulted " + at, at.traders, at.build, (x, v) -> x.hasDefaulted(v));
        indexes("26 marginOf " + at, at.traders, at.build, (x, v) -> x.marginOf(v));
        indexes("27 marginByPositions " + at, at.traders, at.build, (x, v) -> x.marginByPositions(v));
        indexes("28 variationOf " + at, at.traders, at.build, (x, v) -> x.variationOf(v));
        indexes("31 leastMargins " + at, at.traders, at.build, (x, v) -> tried(() -> x.leastMargins(v)));
        indexes("32 leastMarginsBySets " + at, at.traders, at.build, (x, v) -> tried(() -> x.leastMarginsBySets(v)));
        indexes("43 writeTrader " + at, at.traders, at.build, (x, v) -> x.writeTrader(v));
        boolean something = at.horizons > 0;
        indexes("18 positionOf, trader " + at, something ? at.traders : 0, at.build, (x, v) -> x.positionOf(v, 0));
        indexes("33 takerOf, trader " + at, something ? at.traders : 0, at.build, (x, v) -> tried(() -> x.takerOf(v, 0)));
        Check.same("14 traders " + at, at.build.get().traderCount(), at.traders);
    }

    private static void contractNumbers(Place at) {
        indexes("21 buyerOf " + at, at.contracts, at.build, (x, v) -> x.buyerOf(v));
        indexes("22 sellerOf " + at, at.contracts, at.build, (x, v) -> x.sellerOf(v));
        indexes("23 horizonOf " + at, at.contracts, at.build, (x, v) -> x.horizonOf(v));
        indexes("24 quantityOf " + at, at.contracts, at.build, (x, v) -> x.quantityOf(v));
        indexes("25 daysLeft " + at, at.contracts, at.build, (x, v) -> x.daysLeft(v));
        indexes("42 writeContract " + at, at.contracts, at.build, (x, v) -> x.writeContract(v));
        Check.same("20 contracts " + at, at.build.get().contractCount(), at.contracts);
    }

    private static void ranks(Place at) {
        numbers("34 rank " + at, at.traders, at.build, NoSuchElementException.class,
            (x, v) -> x.traderByMoney(v));
    }

    private static void lineIndexes(Place at) {
        indexes("44 index " + at, at.line, at.build, (x, v) -> x.lineAt(v));
    }

    private static void tradeNumbers() {
        indexes("4 buyer, seller alike", 0, Places::empty, (x, v) -> x.trade(v, v, 0, 1, 1));
        indexes("4 buyer, no horizons", 0, Places::tradersAlone, (x, v) -> x.trade(v, 1, 0, 1, 1));
        indexes("4 seller, no horizons", 0, Places::tradersAlone, (x, v) -> x.trade(0, v, 0, 1, 1));
        indexes("4 horizon, no horizons", 0, Places::tradersAlone, (x, v) -> x.trade(0, 1, v, 1, 1));
        indexes("4 horizon, no traders", 0, Places::horizonsAlone, (x, v) -> x.trade(0, 1, v, 1, 1));
        indexes("4 horizon", 2, Places::some, (x, v) -> x.horizonOf(x.trade(0, 1, v, 1, 1)));
        indexes("4 horizon of four", 4, NumberBoundsTest::wide, (x, v) -> x.horizonOf(x.trade(0, 5, v, 1, 1)));
        indexes("4 buyer of six", 6, NumberBoundsTest::wide, (x, v) -> x.buyerOf(x.trade(v, v == 0 ? 5 : 0, 3, 1, 1)));
        indexes("4 seller of six", 6, NumberBoundsTest::wide, (x, v) -> x.sellerOf(x.trade(v == 5 ? 0 : 5, v, 3, 1, 1)));
    }

    /** All horizons and traders, and no contract yet. */
    private static HorizonExchange wide() {
        HorizonExchange x = horizons(4);
        for (int trader = 0; trader < 6; trader++) {
            x.addTrader(1);
        }
        return x;
    }
}
