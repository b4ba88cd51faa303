import java.util.ArrayList;
import java.util.List;
import java.util.NoSuchElementException;
import java.util.function.Consumer;
import java.util.function.Function;
import java.util.function.Supplier;

/**
 * A refused call leaves every answer as it was. Two exchanges are made by the same calls, one of them gets the refused
 * call as well, and then both are asked for everything, and for what comes out after undo, restore, texts and dawns.
 * Each question has a pair of exchanges of its own, as asking takes calls and changes things.
 */
public final class RefusalTest {
    private static final List<Function<HorizonExchange, String>> QUESTIONS = List.of(Look::at, RefusalTest::undone,
        RefusalTest::allUndone, RefusalTest::restored, RefusalTest::executed, RefusalTest::typed, RefusalTest::dawned,
        RefusalTest::added, RefusalTest::saved);

    public static void main(String[] args) {
        numbers();
        arguments();
        nothingThere();
        fullExchange();
        fullBuffer();
        notSound();
        tooLittleMoney();
        tooFewTakers();
        nothingToUndo();
        noSnapshot();
        texts();
        Check.end();
    }

    private static String undone(HorizonExchange x) {
        return Look.answer(x::undo) + " " + Look.at(x);
    }

    private static String allUndone(HorizonExchange x) {
        StringBuilder all = new StringBuilder();
        for (int time = 0; time < 9; time++) {
            all.append(Look.answer(x::undo)).append(' ').append(x.broughtIn()).append(' ').append(x.dayCount()).append(' ');
        }
        return all.append(Look.state(x)).toString();
    }

    private static String restored(HorizonExchange x) {
        return Look.answer(x::restore) + " " + Look.at(x) + " " + Look.answer(x::undo);
    }

    private static String saved(HorizonExchange x) {
        String all = x.save() + " " + x.dawn() + " " + Look.answer(x::undo) + " " + x.dawn() + " " + x.restore();
        return all + " " + Look.at(x);
    }

    private static String executed(HorizonExchange x) {
        return Look.answer(x::execute) + " " + Look.at(x) + " " + Look.answer(x::undo) + " " + Look.brief(x);
    }

    /** As many characters as the buffer takes, and what is wrong with them. */
    private static String typed(HorizonExchange x) {
        StringBuilder all = new StringBuilder();
        for (int time = 0; time < 61; time++) {
            all.append(Look.answer(() -> x.type('d'))).append(' ');
        }
        return all.append(Look.answer(x::execute)).append(' ').append(x.errorPosition()).toString();
    }

    private static String dawned(HorizonExchange x) {
        return x.dawn() + " " + x.dawn() + " " + Look.at(x);
    }

    private static String added(HorizonExchange x) {
        String all = Look.answer(() -> x.addTrader(5)) + " " + Look.answer(() -> x.addHorizon(5, 5)) + " "
            + Look.answer(() -> x.setQuote(0, 51)) + " " + Look.answer(() -> x.trade(0, 1, 0, 1, 1)) + " "
            + Look.answer(() -> x.deposit(0, 1)) + " " + Look.answer(() -> x.contribute(1, 1));
        return all + " " + Look.at(x);
    }

    /** The calls that one place must refuse, and the answers of the place without them. */
    private static final class Place {
        private final String name;
        private final Supplier<HorizonExchange> build;
        private final List<String> due = new ArrayList<>();

        Place(String name, Supplier<HorizonExchange> build) {
            this.name = name;
            this.build = build;
            for (Function<HorizonExchange, String> question : QUESTIONS) {
                due.add(question.apply(build.get()));
            }
        }

        void refuses(String what, Class<?> why, Consumer<HorizonExchange> call) {
            for (int index = 0; index < QUESTIONS.size(); index++) {
                HorizonExchange x = build.get();
                Check.thrown(what + ", " + name, () -> call.accept(x), why);
                Check.same(what + ", " + name + ", question " + index, QUESTIONS.get(index).apply(x), due.get(index));
            }
        }

        void index(String what, Consumer<HorizonExchange> call) {
            refuses(what, IndexOutOfBoundsException.class, call);
        }

        void argument(String what, Consumer<HorizonExchange> call) {
            refuses(what, IllegalArgumentException.class, call);
        }

        void state(String what, Consumer<HorizonExchange> call) {
            refuses(what, IllegalStateException.class, call);
        }

        void unsupported(String what, Consumer<HorizonExchange> call) {
            refuses(what, UnsupportedOperationException.class, call);
        }

        void noElement(String what, Consumer<HorizonExchange> call) {
            refuses(what, NoSuchElementException.class, call);
        }
    }

    private static List<Place> places() {
        return List.of(new Place("empty", Places::empty), new Place("horizons alone", Places::horizonsAlone),
            new Place("traders alone", Places::tradersAlone), new Place("some", Places::some),
            new Place("some and a text", RefusalTest::someText), new Place("restored", Places::restored),
            new Place("trouble", Places::trouble), new Place("full", Places::fullToTheBuffer));
    }

    private static HorizonExchange someText() {
        HorizonExchange x = Places.some();
        x.save();
        x.deposit(0, 3);
        Check.type(x, "pay 0 9;draw 1 1;dawn");
        return x;
    }

    private static void numbers() {
        for (Place place : places()) {
            HorizonExchange there = place.build.get();
            for (int h : new int[] {-1, there.horizonCount(), Integer.MAX_VALUE}) {
                place.index("5 quote " + h, x -> x.setQuote(h, 50));
                place.index("11 price " + h, x -> x.priceOf(h));
                place.index("12 quote " + h, x -> x.quoteOf(h));
                place.index("13 range " + h, x -> x.rangeOf(h));
                place.index("18 position " + h, x -> x.positionOf(0, h));
                place.index("19 open " + h, x -> x.openQuantity(h));
                place.index("33 taker " + h, x -> x.takerOf(0, h));
                place.index("4 trade " + h, x -> x.trade(0, 1, h, 1, 1));
            }
            for (int t : new int[] {-1, there.traderCount(), Integer.MIN_VALUE}) {
                traderNumbers(place, t);
            }
            for (int c : new int[] {-1, there.contractCount(), Integer.MAX_VALUE}) {
                place.index("21 buyer " + c, x -> x.buyerOf(c));
                place.index("22 seller " + c, x -> x.sellerOf(c));
                place.index("23 horizon " + c, x -> x.horizonOf(c));
                place.index("24 quantity " + c, x -> x.quantityOf(c));
                place.index("25 days " + c, x -> x.daysLeft(c));
                place.index("42 write " + c, x -> x.writeContract(c));
            }
            int end = Look.line(there).length() - 1;
            for (int i : new int[] {-1, end, Integer.MIN_VALUE, Integer.MAX_VALUE}) {
                place.index("44 line " + i, x -> x.lineAt(i));
            }
        }
    }

    private static void traderNumbers(Place place, int t) {
        place.index("4 buyer " + t, x -> x.trade(t, 0, 0, 1, 1));
        place.index("4 seller " + t, x -> x.trade(0, t, 0, 1, 1));
        place.index("7 deposit " + t, x -> x.deposit(t, 1));
        place.index("8 withdraw " + t, x -> x.withdraw(t, 1));
        place.index("9 contribute " + t, x -> x.contribute(t, 1));
        place.index("15 money " + t, x -> x.moneyOf(t));
        place.index("16 called " + t, x -> x.isCalled(t));
        place.index("17 defaulted " + t, x -> x.hasDefaulted(t));
        place.index("18 position " + t, x -> x.positionOf(t, 0));
        place.index("26 margin " + t, x -> x.marginOf(t));
        place.index("27 margin " + t, x -> x.marginByPositions(t));
        place.index("28 variation " + t, x -> x.variationOf(t));
        place.index("31 least " + t, x -> x.leastMargins(t));
        place.index("32 least " + t, x -> x.leastMarginsBySets(t));
        place.index("33 taker " + t, x -> x.takerOf(t, 0));
        place.noElement("34 rank " + t, x -> x.traderByMoney(t));
        place.index("43 write " + t, x -> x.writeTrader(t));
    }

    private static void arguments() {
        for (Place place : places()) {
            place.argument("2 price 0", x -> x.addHorizon(0, 5));
            place.argument("2 price 100", x -> x.addHorizon(100, 5));
            place.argument("2 range 0", x -> x.addHorizon(50, 0));
            place.argument("2 range 21", x -> x.addHorizon(50, 21));
            place.argument("3 money -1", x -> x.addTrader(-1));
            place.argument("3 money 10000", x -> x.addTrader(10000));
            place.argument("46 character 31", x -> x.type((char) 31));
            place.argument("46 character 127", x -> x.type((char) 127));
        }
        Place some = new Place("some and a text", RefusalTest::someText);
        some.argument("4 alike", x -> x.trade(1, 1, 0, 1, 1));
        some.argument("4 quantity 0", x -> x.trade(0, 1, 0, 0, 1));
        some.argument("4 quantity 21", x -> x.trade(0, 1, 0, 21, 1));
        some.argument("4 days 0", x -> x.trade(0, 1, 0, 1, 0));
        some.argument("4 days 10", x -> x.trade(0, 1, 0, 1, 10));
        some.argument("5 quote 0", x -> x.setQuote(0, 0));
        some.argument("5 quote 100", x -> x.setQuote(0, 100));
        for (int amount : new int[] {Integer.MIN_VALUE, -1, 0, 10000, Integer.MAX_VALUE}) {
            some.argument("7 amount " + amount, x -> x.deposit(0, amount));
            some.argument("8 amount " + amount, x -> x.withdraw(0, amount));
            some.argument("9 amount " + amount, x -> x.contribute(0, amount));
        }
    }

    private static void nothingThere() {
        for (Place place : List.of(new Place("empty", Places::empty), new Place("horizons", Places::horizonsAlone))) {
            place.refuses("40 nobody", ArithmeticException.class, HorizonExchange::meanMargin);
            place.refuses("41 nobody", ArithmeticException.class, HorizonExchange::soundShare);
        }
        for (Place place : List.of(new Place("empty", Places::empty), new Place("some text", RefusalTest::someText))) {
            place.noElement("48 none", HorizonExchange::errorPosition);
            place.noElement("49 none", HorizonExchange::failedCommand);
        }
    }

    private static void fullExchange() {
        for (Place place : List.of(new Place("full", Places::full), new Place("full buffer", Places::fullToTheBuffer))) {
            place.state("2 a fifth horizon", x -> x.addHorizon(50, 5));
            place.state("3 a seventh trader", x -> x.addTrader(5));
            place.state("4 a 21st contract", x -> x.trade(0, 1, 0, 1, 1));
            place.noElement("33 no position", x -> x.takerOf(0, 3));
        }
    }

    private static void fullBuffer() {
        Place full = new Place("full buffer", Places::fullToTheBuffer);
        full.state("46 a 61st character", x -> x.type('d'));
        full.argument("46 a wrong 61st character", x -> x.type((char) 200));
    }

    private static void notSound() {
        Place trouble = new Place("trouble", Places::trouble);
        trouble.state("4 a called seller", x -> x.trade(0, 2, 0, 1, 1));
        trouble.state("4 a called buyer", x -> x.trade(2, 0, 0, 1, 1));
        trouble.state("4 a defaulted seller", x -> x.trade(0, 3, 0, 1, 1));
        trouble.state("4 a defaulted buyer", x -> x.trade(3, 0, 0, 1, 1));
        trouble.state("7 defaulted", x -> x.deposit(3, 1));
        trouble.state("8 defaulted", x -> x.withdraw(3, 1));
        trouble.state("9 defaulted", x -> x.contribute(3, 1));
        trouble.state("31 defaulted", x -> x.leastMargins(3));
        trouble.state("32 defaulted", x -> x.leastMarginsBySets(3));
        trouble.state("33 defaulted", x -> x.takerOf(3, 0));
    }

    private static void tooLittleMoney() {
        Place trouble = new Place("trouble", Places::trouble);
        trouble.unsupported("4 a buyer with its margin", x -> x.trade(0, 1, 0, 1, 1));
        trouble.unsupported("4 a seller with one coin more", x -> x.trade(0, 1, 1, 1, 1));
        trouble.unsupported("8 with its margin", x -> x.withdraw(0, 1));
        trouble.unsupported("8 with one coin more", x -> x.withdraw(1, 2));
        trouble.unsupported("8 called", x -> x.withdraw(2, 1));
        trouble.unsupported("8 a debt", x -> x.withdraw(4, 1));
        trouble.unsupported("9 with its margin", x -> x.contribute(0, 1));
        trouble.unsupported("9 with one coin more", x -> x.contribute(1, 2));
        trouble.unsupported("9 called", x -> x.contribute(2, 1));
        trouble.unsupported("9 a debt", x -> x.contribute(4, 9999));
    }

    private static void tooFewTakers() {
        Place trouble = new Place("trouble", Places::trouble);
        trouble.unsupported("31 one for two", x -> x.leastMargins(0));
        trouble.unsupported("32 one for two", x -> x.leastMarginsBySets(0));
        trouble.unsupported("33 one for two", x -> x.takerOf(0, 1));
        trouble.noElement("33 no position", x -> x.takerOf(1, 0));
        trouble.noElement("33 no position, called", x -> x.takerOf(2, 1));
    }

    private static void nothingToUndo() {
        new Place("empty", Places::empty).state("50 nothing", HorizonExchange::undo);
        new Place("restored", Places::restored).state("50 nothing", HorizonExchange::undo);
        new Place("all undone", () -> {
            HorizonExchange x = Places.fullToTheBuffer();
            for (int time = 0; time < 8; time++) {
                x.undo();
            }
            return x;
        }).state("50 no ninth", HorizonExchange::undo);
    }

    private static void noSnapshot() {
        new Place("empty", Places::empty).state("52 none", HorizonExchange::restore);
        new Place("some", Places::some).state("52 none", HorizonExchange::restore);
        new Place("trouble", Places::trouble).state("52 none", HorizonExchange::restore);
    }

    /** What a refused text leaves behind: the buffer is empty, its place is told, all else is as it was. */
    private static void texts() {
        String changes = "pay 0 9;quote 0 7;dawn;draw 0 1;";
        for (Supplier<HorizonExchange> build : List.<Supplier<HorizonExchange>>of(Places::some, Places::restored,
            Places::full, Places::trouble)) {
            HorizonExchange known = build.get();
            String[] malformed = {"", "x", "dawn;", changes, changes + "give 0 0x", "trader 1;dawn;dawn;trade"};
            for (String text : malformed) {
                refusedText(build, text, IllegalArgumentException.class);
            }
            String horizon = " " + known.horizonCount() + " ";
            for (String text : new String[] {"pay 9 1", changes + "pay 0 0", changes + "give 0 9;quote" + horizon + "5",
                "dawn;dawn;dawn;trade 0 0 0 1 1", "dawn;dawn;dawn;dawn;dawn;dawn;dawn;dawn;dawn;dawn;draw 9 1"}) {
                refusedText(build, text, IllegalStateException.class);
            }
        }
        refusedText(Places::full, "pay 0 9;trader 5;dawn", IllegalStateException.class);
        refusedText(Places::full, "pay 0 9;dawn;horizon 5 5", IllegalStateException.class);
        refusedText(Places::trouble, "trader 5;horizon 5 5;dawn;pay 3 1", IllegalStateException.class);
        for (String command : new String[] {"trade 0 2 0 1 1", "trade 3 1 0 1 1", "trade 0 1 0 1 1", "pay 3 1", "draw 3 1",
            "give 3 1", "draw 0 1", "give 0 1", "draw 1 2", "give 1 2", "draw 2 1", "give 4 1", "trade 0 0 0 1 1"}) {
            refusedText(Places::trouble, command, IllegalStateException.class);
            refusedText(Places::trouble, "quote 0 9;trader 7;" + command + ";dawn", IllegalStateException.class);
        }
        refusedText(Places::empty, "trader 5;horizon 5 5;trader 5;dawn;pay 2 1", IllegalStateException.class);
    }

    private static void refusedText(Supplier<HorizonExchange> build, String text, Class<?> why) {
        for (int index = 0; index < QUESTIONS.size(); index++) {
            HorizonExchange x = build.get();
            Check.type(x, text);
            Check.thrown("47 " + text, x::execute, why);
            Check.same("46 the buffer is empty behind " + text, x.type('q'), 1);
            HorizonExchange twin = build.get();
            twin.type('q');
            String got = QUESTIONS.get(index).apply(x).replaceAll(" malformed at.* failed at \\w+", "");
            String due = QUESTIONS.get(index).apply(twin).replaceAll(" malformed at.* failed at \\w+", "");
            Check.same("47 all as before " + text + ", question " + index, got, due);
        }
    }
}
