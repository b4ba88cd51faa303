import java.util.ArrayList;
import java.util.List;

/**
 * At each place every call with the numbers at its bounds and far beyond them, two of its parameters at a time, and every
 * character in every place of a text: the exchange and the model must answer the same, and go on to do so.
 */
public final class GridTest {
    private static final int LEAST = Integer.MIN_VALUE;
    private static final int MOST = Integer.MAX_VALUE;
    private static final int[] TRADERS = {LEAST, -1, 0, 1, 2, 3, 4, 5, 6, MOST};
    private static final int[] HORIZONS = {LEAST, -1, 0, 1, 2, 3, 4, MOST};
    private static final int[] CONTRACTS = {LEAST, -1, 0, 1, 2, 3, 18, 19, 20, 21, MOST};
    private static final int[] TO_9 = {LEAST, -1, 0, 1, 2, 8, 9, 10, MOST};
    private static final int[] TO_20 = {LEAST, -1, 0, 1, 2, 7, 19, 20, 21, MOST};
    private static final int[] TO_99 = {LEAST, -1, 0, 1, 2, 50, 98, 99, 100, MOST};
    private static final int[] TO_9999 = {LEAST, -1, 0, 1, 2, 80, 100, 101, 9998, 9999, 10000, MOST};

    private static final String NOTHING = "";
    private static final String SOME = "addHorizon 50 5;addHorizon 30 2;addTrader 100;addTrader 100;trade 0 1 0 13 2;"
        + "trade 1 0 1 10 1;setQuote 0 52;writeContract 1";
    private static final String TROUBLE = "addHorizon 50 5;addHorizon 50 2;addTrader 200;addTrader 200;addTrader 200;"
        + "addTrader 200;addTrader 200;contribute 4 195;trade 1 3 0 20 1;setQuote 0 61;dawn;dawn;trade 0 2 0 20 9;"
        + "trade 0 1 1 10 9;trade 0 4 1 2 1;setQuote 0 68;setQuote 1 53;dawn;withdraw 1 369;withdraw 0 256;setQuote 1 51;"
        + "save;writeTrader 3";
    private static final String FULL = full();

    public static void main(String[] args) throws ReflectiveOperationException {
        int points = 0;
        for (String place : new String[] {NOTHING, SOME, TROUBLE, FULL}) {
            points += modifications(place) + questions(place);
        }
        System.out.println("  " + points + " calls at a bound");
        everyCharacter();
        Check.end();
    }

    private static String full() {
        StringBuilder all = new StringBuilder();
        for (int horizon = 0; horizon < 4; horizon++) {
            all.append("addHorizon ").append(40 + horizon).append(" 5;");
        }
        for (int trader = 0; trader < 6; trader++) {
            all.append("addTrader ").append(100 + 30 * trader).append(';');
        }
        for (int contract = 0; contract < 20; contract++) {
            int buyer = contract % 6;
            int seller = (buyer + 1 + contract % 5) % 6;
            all.append("trade ").append(buyer).append(' ').append(seller).append(' ').append(contract % 4).append(' ');
            all.append(1 + contract % 3).append(' ').append(1 + contract % 9).append(';');
        }
        return all.append("setQuote 2 45;save;setQuote 3 39").toString();
    }

    private static Both at(String place) throws ReflectiveOperationException {
        Both both = new Both();
        for (String call : place.split(";")) {
            String[] words = call.split(" ");
            int[] numbers = new int[words.length - 1];
            for (int index = 0; index < numbers.length; index++) {
                numbers[index] = Integer.parseInt(words[index + 1]);
            }
            if (!call.isEmpty()) {
                both.call(words[0], numbers);
            }
        }
        return both;
    }

    private static int modifications(String place) throws ReflectiveOperationException {
        int points = pairs(place, "addHorizon", new int[] {50, 5}, TO_99, TO_20);
        points += pairs(place, "addTrader", new int[] {50}, TO_9999);
        points += pairs(place, "trade", new int[] {0, 1, 0, 1, 1}, TRADERS, TRADERS, HORIZONS, TO_20, TO_9);
        points += pairs(place, "setQuote", new int[] {0, 50}, HORIZONS, TO_99);
        for (String name : new String[] {"deposit", "withdraw", "contribute"}) {
            points += pairs(place, name, new int[] {0, 1}, TRADERS, TO_9999);
        }
        return points;
    }

    private static int questions(String place) throws ReflectiveOperationException {
        int points = 0;
        for (String name : new String[] {"priceOf", "quoteOf", "rangeOf", "openQuantity"}) {
            points += pairs(place, name, new int[] {0}, HORIZONS);
        }
        for (String name : new String[] {"moneyOf", "isCalled", "hasDefaulted", "marginOf", "marginByPositions",
            "variationOf", "leastMargins", "leastMarginsBySets", "traderByMoney", "writeTrader"}) {
            points += pairs(place, name, new int[] {0}, TRADERS);
        }
        for (String name : new String[] {"buyerOf", "sellerOf", "horizonOf", "quantityOf", "daysLeft", "writeContract",
            "lineAt"}) {
            points += pairs(place, name, new int[] {0}, CONTRACTS);
        }
        points += pairs(place, "positionOf", new int[] {0, 0}, TRADERS, HORIZONS);
        return points + pairs(place, "takerOf", new int[] {0, 0}, TRADERS, HORIZONS);
    }

    /** All values of each two parameters, while the others stay; of one parameter, all its values. */
    private static int pairs(String place, String name, int[] usual, int[]... values) throws ReflectiveOperationException {
        int points = 0;
        for (int first = 0; first < usual.length; first++) {
            for (int a : values[first]) {
                int[] numbers = usual.clone();
                numbers[first] = a;
                if (usual.length == 1) {
                    point(place, name, numbers);
                    points++;
                }
                for (int second = first + 1; second < usual.length; second++) {
                    for (int b : values[second]) {
                        int[] both = numbers.clone();
                        both[second] = b;
                        point(place, name, both);
                        points++;
                    }
                }
            }
        }
        return points;
    }

    private static void point(String place, String name, int[] numbers) throws ReflectiveOperationException {
        Both both = at(place);
        both.call(name, numbers);
        goOn(both);
        List<Integer> all = new ArrayList<>();
        for (int number : numbers) {
            all.add(number);
        }
        Check.same(name + all + " behind " + place, both.isWrong(), false);
    }

    private static void goOn(Both both) throws ReflectiveOperationException {
        for (int index = 0; index < 12; index++) {
            both.call("lineAt", index);
        }
        for (int trader = 0; trader < both.model.traderCount(); trader++) {
            both.call("moneyOf", trader);
            both.call("marginOf", trader);
        }
        for (String name : new String[] {"horizonCount", "contractCount", "fund", "broughtIn", "withdrawn", "dawn",
            "fund", "writtenOff", "undo", "undo", "undo", "contractCount", "broughtIn", "restore", "dayCount"}) {
            both.call(name);
        }
    }

    /** Each beginning of a text with each character behind it: the error position tells whether it fits. */
    private static void everyCharacter() throws ReflectiveOperationException {
        for (String text : new String[] {"horizon 10 20;d", "trader 1234;t", "trade 0 1 0 10 9;h", "quote 1 99;q", "dawn;g",
            "pay 0 1234;p", "draw 1 1234;dr", "give 1 1234;x"}) {
            for (int length = 0; length < text.length(); length++) {
                Both both = at(SOME);
                for (int code = 32; code <= 126; code++) {
                    if (both.size() > 440) {
                        Check.same("texts like " + text, both.isWrong(), false);
                        both = at(SOME);
                    }
                    both.type(text.substring(0, length));
                    both.call("type", code);
                    both.call("execute");
                    both.call("errorPosition");
                    both.call("failedCommand");
                }
                Check.same("texts like " + text, both.isWrong(), false);
            }
        }
    }
}
