import java.util.NoSuchElementException;

/**
 * An exchange for futures on horizons. This class is the face alone: the state is a Market, and what needs rows to
 * reckon in (settling, taking over, reading commands) stands in a class of its own, made once, so that no call makes
 * rows anew.
 */
public final class HorizonExchange {
    private static final int MOST_HORIZONS = 4;
    private static final int MOST_TRADERS = 6;
    private static final int MOST_CONTRACTS = 20;
    private static final int MOST_CHARACTERS = 60;
    private static final int MOST_UNDONE = 8;
    private static final int NONE = -1;

    private final Market market = new Market();
    private final Market beforeText = new Market();
    private final Market snapshot = new Market();
    private final History history = new History();
    private final Settlement settlement = new Settlement();
    private final TakeOver takeOver = new TakeOver();
    private final CommandReader reader = new CommandReader();
    private final StringBuilder text = new StringBuilder();
    private final StringBuilder line = new StringBuilder();
    private boolean hasSnapshot;
    private int malformedAt = NONE;
    private int failedAt = NONE;

    public HorizonExchange() {
    }

    // Horizons, traders and contracts.

    public int addHorizon(int price, int range) throws IllegalArgumentException, IllegalStateException {
        return modify(Command.HORIZON, price, range, 0, 0, 0);
    }

    public int addTrader(int money) throws IllegalArgumentException, IllegalStateException {
        return modify(Command.TRADER, money, 0, 0, 0, 0);
    }

    public int trade(int buyer, int seller, int horizon, int quantity, int days)
            throws IndexOutOfBoundsException, IllegalArgumentException, IllegalStateException,
            UnsupportedOperationException {
        return modify(Command.TRADE, buyer, seller, horizon, quantity, days);
    }

    public int setQuote(int horizon, int quote) throws IndexOutOfBoundsException, IllegalArgumentException {
        return modify(Command.QUOTE, horizon, quote, 0, 0, 0);
    }

    public int dawn() {
        return modify(Command.DAWN, 0, 0, 0, 0, 0);
    }

    public int deposit(int trader, int amount)
            throws IndexOutOfBoundsException, IllegalArgumentException, IllegalStateException {
        return modify(Command.PAY, trader, amount, 0, 0, 0);
    }

    public int withdraw(int trader, int amount)
            throws IndexOutOfBoundsException, IllegalArgumentException, IllegalStateException,
            UnsupportedOperationException {
        return modify(Command.DRAW, trader, amount, 0, 0, 0);
    }

    public int contribute(int trader, int amount)
            throws IndexOutOfBoundsException, IllegalArgumentException, IllegalStateException,
            UnsupportedOperationException {
        return modify(Command.GIVE, trader, amount, 0, 0, 0);
    }

    // Properties.

    public int horizonCount() {
        return market.horizons;
    }

    public int priceOf(int horizon) throws IndexOutOfBoundsException {
        needNumber(horizon, market.horizons);
        return market.price[horizon];
    }

    public int quoteOf(int horizon) throws IndexOutOfBoundsException {
        needNumber(horizon, market.horizons);
        return market.quote[horizon];
    }

    public int rangeOf(int horizon) throws IndexOutOfBoundsException {
        needNumber(horizon, market.horizons);
        return market.range[horizon];
    }

    public int traderCount() {
        return market.traders;
    }

    public int moneyOf(int trader) throws IndexOutOfBoundsException {
        needNumber(trader, market.traders);
        return market.money[trader];
    }

    public boolean isCalled(int trader) throws IndexOutOfBoundsException {
        needNumber(trader, market.traders);
        return market.standing[trader] == Market.CALLED;
    }

    public boolean hasDefaulted(int trader) throws IndexOutOfBoundsException {
        needNumber(trader, market.traders);
        return market.standing[trader] == Market.DEFAULTED;
    }

    public int positionOf(int trader, int horizon) throws IndexOutOfBoundsException {
        needNumber(trader, market.traders);
        needNumber(horizon, market.horizons);
        return market.position(trader, horizon);
    }

    public int openQuantity(int horizon) throws IndexOutOfBoundsException {
        needNumber(horizon, market.horizons);
        return market.quantityOpenOn(horizon);
    }

    public int contractCount() {
        return market.contracts;
    }

    public int buyerOf(int contract) throws IndexOutOfBoundsException {
        needNumber(contract, market.contracts);
        return market.buyer[contract];
    }

    public int sellerOf(int contract) throws IndexOutOfBoundsException {
        needNumber(contract, market.contracts);
        return market.seller[contract];
    }

    public int horizonOf(int contract) throws IndexOutOfBoundsException {
        needNumber(contract, market.contracts);
        return market.horizon[contract];
    }

    public int quantityOf(int contract) throws IndexOutOfBoundsException {
        needNumber(contract, market.contracts);
        return market.quantity[contract];
    }

    public int daysLeft(int contract) throws IndexOutOfBoundsException {
        needNumber(contract, market.contracts);
        return market.expiry[contract] - market.days;
    }

    // Margins, variations and defaults.

    public int marginOf(int trader) throws IndexOutOfBoundsException {
        needNumber(trader, market.traders);
        return market.marginOverScenarios(trader);
    }

    public int marginByPositions(int trader) throws IndexOutOfBoundsException {
        needNumber(trader, market.traders);
        return market.margin(trader);
    }

    public int variationOf(int trader) throws IndexOutOfBoundsException {
        needNumber(trader, market.traders);
        return market.variation(trader);
    }

    public int payments() {
        settlement.collect(market);
        return settlement.leastOverSets();
    }

    public int paymentsByGroups() {
        settlement.collect(market);
        return settlement.leastOverGroups();
    }

    public int leastMargins(int trader)
            throws IndexOutOfBoundsException, IllegalStateException, UnsupportedOperationException {
        raise(prepareTakeOver(trader));
        return takeOver.leastOverWays(market);
    }

    public int leastMarginsBySets(int trader)
            throws IndexOutOfBoundsException, IllegalStateException, UnsupportedOperationException {
        raise(prepareTakeOver(trader));
        return takeOver.leastOverSets(market);
    }

    public int takerOf(int trader, int horizon)
            throws IndexOutOfBoundsException, IllegalStateException, UnsupportedOperationException,
            NoSuchElementException {
        needNumber(horizon, market.horizons);
        raise(prepareTakeOver(trader));
        takeOver.leastOverWays(market);
        int taker = takeOver.takerOn(horizon);
        if (taker == NONE) {
            throw new NoSuchElementException("the position is 0");
        }
        return taker;
    }

    public int traderByMoney(int rank) throws NoSuchElementException {
        int trader = market.traderAtRank(rank);
        if (trader == NONE) {
            throw new NoSuchElementException("there is no such rank");
        }
        return trader;
    }

    // Accounts.

    public int fund() {
        return market.fundMoney;
    }

    public int writtenOff() {
        return market.lost;
    }

    public long broughtIn() {
        return market.moneyIn;
    }

    public long withdrawn() {
        return market.moneyOut;
    }

    public int dayCount() {
        return market.days;
    }

    public double meanMargin() throws ArithmeticException {
        if (market.traders == 0) {
            throw new ArithmeticException("there are no traders");
        }
        int sum = 0;
        for (int trader = 0; trader < market.traders; trader++) {
            sum += market.margin(trader);
        }
        return (double) sum / (double) market.traders;
    }

    public float soundShare() throws ArithmeticException {
        if (market.traders == 0) {
            throw new ArithmeticException("there are no traders");
        }
        int sound = 0;
        for (int trader = 0; trader < market.traders; trader++) {
            if (market.standing[trader] == Market.SOUND) {
                sound++;
            }
        }
        return (float) sound / (float) market.traders;
    }

    // Lines and checks.

    public int writeContract(int contract) throws IndexOutOfBoundsException {
        needNumber(contract, market.contracts);
        line.setLength(0);
        line.append(market.buyer[contract]).append('<').append(market.seller[contract]);
        line.append(':').append(market.quantity[contract]).append('h').append(market.horizon[contract]);
        line.append('+').append(market.expiry[contract] - market.days);
        return line.length();
    }

    public int writeTrader(int trader) throws IndexOutOfBoundsException {
        needNumber(trader, market.traders);
        line.setLength(0);
        line.append(market.money[trader]).append('/').append(market.margin(trader));
        if (market.standing[trader] == Market.CALLED) {
            line.append('!');
        } else if (market.standing[trader] == Market.DEFAULTED) {
            line.append('x');
        }
        return line.length();
    }

    public char lineAt(int index) throws IndexOutOfBoundsException {
        needNumber(index, line.length());
        return line.charAt(index);
    }

    public boolean isConsistent() {
        return marginsAgree() && paymentsAgree() && leastMarginsAgree()
                && market.variationsAddUp() && market.accountsAddUp();
    }

    // Text, undo and snapshots.

    public int type(char character) throws IllegalArgumentException, IllegalStateException {
        if (character < 32 || character > 126) {
            throw new IllegalArgumentException("the character is not from 32 to 126");
        }
        if (text.length() >= MOST_CHARACTERS) {
            throw new IllegalStateException("the buffer is full");
        }
        text.append(character);
        return text.length();
    }

    public int execute() throws IllegalArgumentException, IllegalStateException {
        boolean wellFormed = reader.read(text);
        text.setLength(0);
        if (!wellFormed) {
            malformedAt = reader.position;
            throw new IllegalArgumentException("the text is malformed");
        }
        beforeText.copyFrom(market);
        for (int index = 0; index < reader.count; index++) {
            int command = reader.commandAt(index);
            int a = reader.argumentAt(index, 0);
            int b = reader.argumentAt(index, 1);
            int c = reader.argumentAt(index, 2);
            int d = reader.argumentAt(index, 3);
            int e = reader.argumentAt(index, 4);
            if (faultOf(command, a, b, c, d, e) != Fault.NOTHING) {
                market.copyFrom(beforeText);
                failedAt = index;
                throw new IllegalStateException("a command fails");
            }
            perform(command, a, b, c, d, e);
        }
        history.keep(beforeText);
        return reader.count;
    }

    public int errorPosition() throws NoSuchElementException {
        if (malformedAt == NONE) {
            throw new NoSuchElementException("no text was malformed so far");
        }
        return malformedAt;
    }

    public int failedCommand() throws NoSuchElementException {
        if (failedAt == NONE) {
            throw new NoSuchElementException("no command failed so far");
        }
        return failedAt;
    }

    public int undo() throws IllegalStateException {
        if (history.count == 0) {
            throw new IllegalStateException("there is nothing to undo");
        }
        history.takeBack(market);
        return history.count;
    }

    public int save() {
        snapshot.copyFrom(market);
        hasSnapshot = true;
        return market.contracts;
    }

    public int restore() throws IllegalStateException {
        if (!hasSnapshot) {
            throw new IllegalStateException("there is no snapshot");
        }
        market.copyFrom(snapshot);
        history.count = 0;
        return market.contracts;
    }

    // Modifications: the face and the texts go the same way, so that a command fails just where its method throws.

    private int modify(int command, int a, int b, int c, int d, int e) {
        raise(faultOf(command, a, b, c, d, e));
        history.keep(market);
        return perform(command, a, b, c, d, e);
    }

    private int faultOf(int command, int a, int b, int c, int d, int e) {
        switch (command) {
            case Command.HORIZON: return market.faultOfHorizon(a, b);
            case Command.TRADER: return market.faultOfTrader(a);
            case Command.TRADE: return market.faultOfTrade(a, b, c, d, e);
            case Command.QUOTE: return market.faultOfQuote(a, b);
            case Command.PAY: return market.faultOfBringing(a, b);
            case Command.DRAW: return market.faultOfTaking(a, b);
            case Command.GIVE: return market.faultOfTaking(a, b);
            default: return Fault.NOTHING;
        }
    }

    private int perform(int command, int a, int b, int c, int d, int e) {
        switch (command) {
            case Command.HORIZON: return market.placeHorizon(a, b);
            case Command.TRADER: return market.placeTrader(a);
            case Command.TRADE: return market.conclude(a, b, c, d, e);
            case Command.QUOTE: return market.replaceQuote(a, b);
            case Command.DAWN: return passNight();
            case Command.PAY: return market.bringMoney(a, b);
            case Command.DRAW: return market.takeMoney(a, b);
            case Command.GIVE: return market.giveToFund(a, b);
            default: return 0;
        }
    }

    private int passNight() {
        market.settleVariations();
        market.endDay();
        int defaulting = market.callTraders();
        for (int trader = 0; trader < market.traders; trader++) {
            if ((defaulting >> trader & 1) != 0) {
                carryOutDefault(trader);
            }
        }
        return Integer.bitCount(defaulting);
    }

    private void carryOutDefault(int trader) {
        takeOver.prepare(market, trader);
        if (takeOver.isPossible()) {
            takeOver.leastOverWays(market);
            for (int horizon = 0; horizon < market.horizons; horizon++) {
                int taker = takeOver.takerOn(horizon);
                if (taker != NONE) {
                    market.replaceTrader(trader, taker, horizon);
                }
            }
        }
        market.endContractsOf(trader);
        market.closeAccount(trader);
    }

    private int prepareTakeOver(int trader) {
        if (!isNumber(trader, market.traders)) {
            return Fault.NO_SUCH_NUMBER;
        }
        if (market.standing[trader] == Market.DEFAULTED) {
            return Fault.WRONG_STATE;
        }
        takeOver.prepare(market, trader);
        return takeOver.isPossible() ? Fault.NOTHING : Fault.NOT_ENOUGH;
    }

    private boolean marginsAgree() {
        for (int trader = 0; trader < market.traders; trader++) {
            if (market.marginOverScenarios(trader) != market.margin(trader)) {
                return false;
            }
        }
        return true;
    }

    private boolean paymentsAgree() {
        settlement.collect(market);
        return settlement.leastOverSets() == settlement.leastOverGroups();
    }

    private boolean leastMarginsAgree() {
        for (int trader = 0; trader < market.traders; trader++) {
            if (prepareTakeOver(trader) == Fault.NOTHING
                    && takeOver.leastOverWays(market) != takeOver.leastOverSets(market)) {
                return false;
            }
        }
        return true;
    }

    private static boolean isNumber(int number, int count) {
        return number >= 0 && number < count;
    }

    private static boolean isWithin(int value, int least, int most) {
        return value >= least && value <= most;
    }

    private static void needNumber(int number, int count) {
        if (!isNumber(number, count)) {
            throw new IndexOutOfBoundsException("there is no such number");
        }
    }

    private static void raise(int fault) {
        switch (fault) {
            case Fault.NO_SUCH_NUMBER: throw new IndexOutOfBoundsException("there is no such number");
            case Fault.OUT_OF_RANGE: throw new IllegalArgumentException("an argument is not allowed");
            case Fault.WRONG_STATE: throw new IllegalStateException("the state does not allow this");
            case Fault.NOT_ENOUGH: throw new UnsupportedOperationException("there is not enough for this");
            default: break;
        }
    }

    /** What is wrong with a call. Numbers, so that texts can ask for a fault without an exception. */
    private static final class Fault {
        static final int NOTHING = 0;
        static final int NO_SUCH_NUMBER = 1;
        static final int OUT_OF_RANGE = 2;
        static final int WRONG_STATE = 3;
        static final int NOT_ENOUGH = 4;
    }

    /** The modifications that a text can name. */
    private static final class Command {
        static final int HORIZON = 0;
        static final int TRADER = 1;
        static final int TRADE = 2;
        static final int QUOTE = 3;
        static final int DAWN = 4;
        static final int PAY = 5;
        static final int DRAW = 6;
        static final int GIVE = 7;
        static final int COUNT = 8;

        static String wordOf(int command) {
            switch (command) {
                case HORIZON: return "horizon";
                case TRADER: return "trader";
                case TRADE: return "trade";
                case QUOTE: return "quote";
                case DAWN: return "dawn";
                case PAY: return "pay";
                case DRAW: return "draw";
                case GIVE: return "give";
                default: return "";
            }
        }

        /** For each parameter the most digits that it may have. */
        static String digitsOf(int command) {
            switch (command) {
                case HORIZON: return "22";
                case TRADER: return "4";
                case TRADE: return "11121";
                case QUOTE: return "12";
                case PAY: return "14";
                case DRAW: return "14";
                case GIVE: return "14";
                default: return "";
            }
        }
    }

    /** Reads a whole text before any command is executed, as a malformed text must leave the state as it was. */
    private static final class CommandReader {
        /** The shortest command and a semicolon take five characters. */
        private static final int MOST_COMMANDS = (MOST_CHARACTERS + 1) / 5;
        private static final int MOST_PARAMETERS = 5;

        private final int[] commands = new int[MOST_COMMANDS];
        private final int[] arguments = new int[MOST_COMMANDS * MOST_PARAMETERS];
        private int count;
        private int position;

        /** Answers whether the text is valid; if it is not, position is its error position. */
        boolean read(StringBuilder text) {
            position = 0;
            count = 0;
            while (count < MOST_COMMANDS) {
                if (!readCommand(text)) {
                    return false;
                }
                count++;
                if (position == text.length()) {
                    return true;
                }
                if (signAt(text, position) != ';') {
                    return false;
                }
                position++;
            }
            return false;
        }

        private boolean readCommand(StringBuilder text) {
            int command = readWord(text);
            if (command == NONE) {
                return false;
            }
            commands[count] = command;
            String digits = Command.digitsOf(command);
            for (int index = 0; index < digits.length() && index < MOST_PARAMETERS; index++) {
                if (!readNumber(text, digits.charAt(index) - '0', count * MOST_PARAMETERS + index)) {
                    return false;
                }
            }
            return true;
        }

        /** The longest word counts, as "trade" begins "trader". */
        private int readWord(StringBuilder text) {
            int found = NONE;
            int longestFound = 0;
            int longest = 0;
            for (int command = 0; command < Command.COUNT; command++) {
                String word = Command.wordOf(command);
                int common = commonLength(text, word);
                longest = Math.max(longest, common);
                if (common == word.length() && common > longestFound) {
                    found = command;
                    longestFound = common;
                }
            }
            position += longest;
            return found;
        }

        private int commonLength(StringBuilder text, String word) {
            int length = 0;
            while (length < word.length() && signAt(text, position + length) == word.charAt(length)) {
                length++;
            }
            return length;
        }

        private boolean readNumber(StringBuilder text, int mostDigits, int place) {
            if (signAt(text, position) != ' ') {
                return false;
            }
            position++;
            int number = 0;
            int digits = 0;
            while (digits < mostDigits && isDigit(signAt(text, position))) {
                number = number * 10 + (signAt(text, position) - '0');
                position++;
                digits++;
            }
            if (isNumber(place, arguments.length)) {
                arguments[place] = number;
            }
            return digits > 0;
        }

        int commandAt(int index) {
            return isNumber(index, count) ? commands[index] : NONE;
        }

        /** A parameter that the command does not have may hold a number of an earlier text; nobody uses it. */
        int argumentAt(int index, int parameter) {
            int place = index * MOST_PARAMETERS + parameter;
            return isNumber(place, arguments.length) ? arguments[place] : 0;
        }

        private static boolean isDigit(char sign) {
            return sign >= '0' && sign <= '9';
        }

        /** Behind the end stands a sign that no text holds. */
        private static char signAt(StringBuilder text, int index) {
            return isNumber(index, text.length()) ? text.charAt(index) : (char) 0;
        }
    }

    /** The states before the last modifications, in a ring whose rows are made once. */
    private static final class History {
        private final Market[] states = new Market[MOST_UNDONE];
        private int next;
        private int count;

        History() {
            for (int index = 0; index < MOST_UNDONE; index++) {
                states[index] = new Market();
            }
        }

        void keep(Market market) {
            Market state = states[Math.floorMod(next, MOST_UNDONE)];
            if (state != null) {
                state.copyFrom(market);
            }
            next = Math.floorMod(next + 1, MOST_UNDONE);
            count = Math.min(count + 1, MOST_UNDONE);
        }

        void takeBack(Market market) {
            next = Math.floorMod(next - 1, MOST_UNDONE);
            Market state = states[next];
            if (state != null) {
                market.copyFrom(state);
            }
            count--;
        }
    }

    /** The state that is undone, saved and restored. */
    private static final class Market {
        static final int SOUND = 0;
        static final int CALLED = 1;
        static final int DEFAULTED = 2;

        private int horizons;
        private final int[] price = new int[MOST_HORIZONS];
        private final int[] quote = new int[MOST_HORIZONS];
        private final int[] range = new int[MOST_HORIZONS];
        private int traders;
        private final int[] money = new int[MOST_TRADERS];
        private final int[] standing = new int[MOST_TRADERS];
        private int contracts;
        private final int[] buyer = new int[MOST_CONTRACTS];
        private final int[] seller = new int[MOST_CONTRACTS];
        private final int[] horizon = new int[MOST_CONTRACTS];
        private final int[] quantity = new int[MOST_CONTRACTS];
        private final int[] expiry = new int[MOST_CONTRACTS];
        private int days;
        private int fundMoney;
        private int lost;
        private long moneyIn;
        private long moneyOut;

        void copyFrom(Market other) {
            horizons = other.horizons;
            System.arraycopy(other.price, 0, price, 0, MOST_HORIZONS);
            System.arraycopy(other.quote, 0, quote, 0, MOST_HORIZONS);
            System.arraycopy(other.range, 0, range, 0, MOST_HORIZONS);
            traders = other.traders;
            System.arraycopy(other.money, 0, money, 0, MOST_TRADERS);
            System.arraycopy(other.standing, 0, standing, 0, MOST_TRADERS);
            contracts = other.contracts;
            System.arraycopy(other.buyer, 0, buyer, 0, MOST_CONTRACTS);
            System.arraycopy(other.seller, 0, seller, 0, MOST_CONTRACTS);
            System.arraycopy(other.horizon, 0, horizon, 0, MOST_CONTRACTS);
            System.arraycopy(other.quantity, 0, quantity, 0, MOST_CONTRACTS);
            System.arraycopy(other.expiry, 0, expiry, 0, MOST_CONTRACTS);
            days = other.days;
            fundMoney = other.fundMoney;
            lost = other.lost;
            moneyIn = other.moneyIn;
            moneyOut = other.moneyOut;
        }

        // What is wrong with a modification, in the order in which the document throws.

        int faultOfHorizon(int newPrice, int newRange) {
            if (!isWithin(newPrice, 1, 99) || !isWithin(newRange, 1, 20)) {
                return Fault.OUT_OF_RANGE;
            }
            return horizons >= MOST_HORIZONS ? Fault.WRONG_STATE : Fault.NOTHING;
        }

        int faultOfTrader(int newMoney) {
            if (!isWithin(newMoney, 0, 9999)) {
                return Fault.OUT_OF_RANGE;
            }
            return traders >= MOST_TRADERS ? Fault.WRONG_STATE : Fault.NOTHING;
        }

        int faultOfTrade(int newBuyer, int newSeller, int on, int amount, int lasting) {
            if (!isNumber(newBuyer, traders) || !isNumber(newSeller, traders) || !isNumber(on, horizons)) {
                return Fault.NO_SUCH_NUMBER;
            }
            if (newBuyer == newSeller || !isWithin(amount, 1, 20) || !isWithin(lasting, 1, 9)) {
                return Fault.OUT_OF_RANGE;
            }
            if (contracts >= MOST_CONTRACTS || standing[newBuyer] != SOUND || standing[newSeller] != SOUND) {
                return Fault.WRONG_STATE;
            }
            if (money[newBuyer] < marginWith(newBuyer, on, amount)
                    || money[newSeller] < marginWith(newSeller, on, -amount)) {
                return Fault.NOT_ENOUGH;
            }
            return Fault.NOTHING;
        }

        int faultOfQuote(int on, int newQuote) {
            if (!isNumber(on, horizons)) {
                return Fault.NO_SUCH_NUMBER;
            }
            return isWithin(newQuote, 1, 99) ? Fault.NOTHING : Fault.OUT_OF_RANGE;
        }

        int faultOfBringing(int trader, int amount) {
            if (!isNumber(trader, traders)) {
                return Fault.NO_SUCH_NUMBER;
            }
            if (!isWithin(amount, 1, 9999)) {
                return Fault.OUT_OF_RANGE;
            }
            return standing[trader] == DEFAULTED ? Fault.WRONG_STATE : Fault.NOTHING;
        }

        int faultOfTaking(int trader, int amount) {
            int fault = faultOfBringing(trader, amount);
            if (fault != Fault.NOTHING) {
                return fault;
            }
            return money[trader] - amount < margin(trader) ? Fault.NOT_ENOUGH : Fault.NOTHING;
        }

        // Modifications, once nothing is wrong with them.

        int placeHorizon(int newPrice, int newRange) {
            price[horizons] = newPrice;
            quote[horizons] = newPrice;
            range[horizons] = newRange;
            horizons++;
            return horizons - 1;
        }

        int placeTrader(int newMoney) {
            money[traders] = newMoney;
            standing[traders] = SOUND;
            moneyIn += newMoney;
            traders++;
            return traders - 1;
        }

        int conclude(int newBuyer, int newSeller, int on, int amount, int lasting) {
            buyer[contracts] = newBuyer;
            seller[contracts] = newSeller;
            horizon[contracts] = on;
            quantity[contracts] = amount;
            expiry[contracts] = days + lasting;
            contracts++;
            return contracts - 1;
        }

        int replaceQuote(int on, int newQuote) {
            int previous = quote[on];
            quote[on] = newQuote;
            return previous;
        }

        int bringMoney(int trader, int amount) {
            money[trader] += amount;
            moneyIn += amount;
            return money[trader];
        }

        int takeMoney(int trader, int amount) {
            money[trader] -= amount;
            moneyOut += amount;
            return money[trader];
        }

        int giveToFund(int trader, int amount) {
            money[trader] -= amount;
            fundMoney += amount;
            return fundMoney;
        }

        // The steps of a dawn.

        void settleVariations() {
            for (int trader = 0; trader < traders; trader++) {
                money[trader] += variation(trader);
            }
            for (int on = 0; on < horizons; on++) {
                price[on] = quote[on];
            }
        }

        void endDay() {
            days++;
            for (int contract = contracts - 1; contract >= 0; contract--) {
                if (expiry[contract] == days) {
                    removeContract(contract);
                }
            }
        }

        /** Answers the set of the traders that default; they stay called until their default is carried out. */
        int callTraders() {
            int defaulting = 0;
            for (int trader = 0; trader < traders; trader++) {
                if (standing[trader] == DEFAULTED) {
                    continue;
                }
                if (money[trader] >= margin(trader)) {
                    standing[trader] = SOUND;
                } else if (standing[trader] == CALLED) {
                    defaulting |= 1 << trader;
                } else {
                    standing[trader] = CALLED;
                }
            }
            return defaulting;
        }

        void replaceTrader(int trader, int taker, int on) {
            for (int contract = 0; contract < contracts; contract++) {
                if (horizon[contract] != on) {
                    continue;
                }
                if (buyer[contract] == trader) {
                    buyer[contract] = taker;
                } else if (seller[contract] == trader) {
                    seller[contract] = taker;
                }
            }
        }

        /** Ends the contracts of a taker with itself, too. */
        void endContractsOf(int trader) {
            for (int contract = contracts - 1; contract >= 0; contract--) {
                if (concerns(contract, trader) || buyer[contract] == seller[contract]) {
                    removeContract(contract);
                }
            }
        }

        void closeAccount(int trader) {
            if (money[trader] > 0) {
                fundMoney += money[trader];
            } else {
                int missing = -money[trader];
                int paid = Math.min(missing, fundMoney);
                fundMoney -= paid;
                lost += missing - paid;
            }
            money[trader] = 0;
            standing[trader] = DEFAULTED;
        }

        private void removeContract(int contract) {
            for (int place = contract; place + 1 < contracts; place++) {
                buyer[place] = buyer[place + 1];
                seller[place] = seller[place + 1];
                horizon[place] = horizon[place + 1];
                quantity[place] = quantity[place + 1];
                expiry[place] = expiry[place + 1];
            }
            contracts--;
        }

        // What follows from the contracts.

        boolean concerns(int contract, int trader) {
            return buyer[contract] == trader || seller[contract] == trader;
        }

        int position(int trader, int on) {
            return positionWithout(trader, on, NONE);
        }

        /** The position without the contracts that another trader has a part in. */
        int positionWithout(int trader, int on, int other) {
            int sum = 0;
            for (int contract = 0; contract < contracts; contract++) {
                if (horizon[contract] != on || buyer[contract] == other || seller[contract] == other) {
                    continue;
                }
                if (buyer[contract] == trader) {
                    sum += quantity[contract];
                } else if (seller[contract] == trader) {
                    sum -= quantity[contract];
                }
            }
            return sum;
        }

        int quantityOpenOn(int on) {
            int sum = 0;
            for (int contract = 0; contract < contracts; contract++) {
                if (horizon[contract] == on) {
                    sum += quantity[contract];
                }
            }
            return sum;
        }

        int margin(int trader) {
            int sum = 0;
            for (int on = 0; on < horizons; on++) {
                sum += Math.abs(position(trader, on)) * range[on];
            }
            return sum;
        }

        /** The margin if the position in one horizon were greater by a number. */
        int marginWith(int trader, int on, int more) {
            int held = position(trader, on);
            return margin(trader) + (Math.abs(held + more) - Math.abs(held)) * range[on];
        }

        /** No greatest loss is below 0, as the loss of the opposite scenario is the opposite. */
        int marginOverScenarios(int trader) {
            int greatest = 0;
            for (int scenario = 0; scenario < 1 << horizons; scenario++) {
                int loss = 0;
                for (int on = 0; on < horizons; on++) {
                    int change = position(trader, on) * range[on];
                    loss += (scenario >> on & 1) != 0 ? -change : change;
                }
                greatest = Math.max(greatest, loss);
            }
            return greatest;
        }

        int variation(int trader) {
            int sum = 0;
            for (int on = 0; on < horizons; on++) {
                sum += position(trader, on) * (quote[on] - price[on]);
            }
            return sum;
        }

        int traderAtRank(int rank) {
            for (int trader = 0; trader < traders; trader++) {
                int before = 0;
                for (int other = 0; other < traders; other++) {
                    if (money[other] > money[trader] || money[other] == money[trader] && other < trader) {
                        before++;
                    }
                }
                if (before == rank) {
                    return trader;
                }
            }
            return NONE;
        }

        boolean variationsAddUp() {
            int sum = 0;
            for (int trader = 0; trader < traders; trader++) {
                sum += variation(trader);
            }
            return sum == 0;
        }

        boolean accountsAddUp() {
            long sum = fundMoney;
            for (int trader = 0; trader < traders; trader++) {
                sum += money[trader];
            }
            return sum == moneyIn - moneyOut + lost;
        }
    }

    /** The least number of payments for the variations of a market, in two ways. */
    private static final class Settlement {
        private final int[] variations = new int[MOST_TRADERS];
        private int count;
        private final int[] groupsIn = new int[1 << MOST_TRADERS];
        private final int[] sums = new int[MOST_TRADERS];
        private int mostGroups;

        void collect(Market market) {
            count = 0;
            for (int trader = 0; trader < market.traders; trader++) {
                int variation = market.variation(trader);
                if (variation != 0) {
                    variations[count] = variation;
                    count++;
                }
            }
        }

        /** A set has as many groups as the best of its sets without one trader, and one more if it adds up to 0. */
        int leastOverSets() {
            groupsIn[0] = 0;
            for (int set = 1; set < 1 << count; set++) {
                int sum = 0;
                int most = 0;
                for (int index = 0; index < count; index++) {
                    if ((set >> index & 1) != 0) {
                        sum += variations[index];
                        most = Math.max(most, groupsIn[set ^ 1 << index]);
                    }
                }
                groupsIn[set] = sum == 0 ? most + 1 : most;
            }
            return count - groupsIn[(1 << count) - 1];
        }

        int leastOverGroups() {
            mostGroups = 0;
            putIntoGroups(0, 0);
            return count - mostGroups;
        }

        private void putIntoGroups(int index, int groups) {
            if (index >= count) {
                if (areSettled(groups)) {
                    mostGroups = Math.max(mostGroups, groups);
                }
                return;
            }
            for (int group = 0; group < groups; group++) {
                sums[group] += variations[index];
                putIntoGroups(index + 1, groups);
                sums[group] -= variations[index];
            }
            sums[groups] = variations[index];
            putIntoGroups(index + 1, groups + 1);
        }

        private boolean areSettled(int groups) {
            for (int group = 0; group < groups; group++) {
                if (sums[group] != 0) {
                    return false;
                }
            }
            return true;
        }
    }

    /** The best way to take the positions of a trader over, in two ways. */
    private static final class TakeOver {
        /** Far above any sum of margins. */
        private static final int UNREACHED = 1000000000;

        private int sound;
        private final int[][] after = new int[MOST_TRADERS][MOST_HORIZONS];
        private int needed;
        private final int[] horizons = new int[MOST_HORIZONS];
        private final int[] positions = new int[MOST_HORIZONS];
        private final int[] takers = new int[MOST_HORIZONS];
        private final int[] bestTakers = new int[MOST_HORIZONS];
        private int leastSum;
        private final int[] leastFor = new int[1 << MOST_TRADERS];

        void prepare(Market market, int defaulting) {
            sound = 0;
            for (int trader = 0; trader < market.traders; trader++) {
                if (trader != defaulting && market.standing[trader] == Market.SOUND) {
                    sound |= 1 << trader;
                }
            }
            needed = 0;
            for (int on = 0; on < market.horizons; on++) {
                int position = market.position(defaulting, on);
                if (position != 0) {
                    horizons[needed] = on;
                    positions[needed] = position;
                    needed++;
                }
                // Contracts on a horizon that needs no taker end, so what the others keep is without them.
                int ended = position == 0 ? defaulting : NONE;
                for (int trader = 0; trader < market.traders; trader++) {
                    after[trader][on] = market.positionWithout(trader, on, ended);
                }
            }
        }

        boolean isPossible() {
            return Integer.bitCount(sound) >= needed;
        }

        /** Takers are tried in the order of their numbers, so the first of several best ways is the one that is due. */
        int leastOverWays(Market market) {
            leastSum = UNREACHED;
            tryTakers(market, 0, sound);
            return leastSum;
        }

        private void tryTakers(Market market, int index, int free) {
            if (index >= needed) {
                int sum = sumOfMargins(market);
                if (sum < leastSum) {
                    leastSum = sum;
                    System.arraycopy(takers, 0, bestTakers, 0, MOST_HORIZONS);
                }
                return;
            }
            for (int trader = 0; trader < market.traders; trader++) {
                if ((free >> trader & 1) != 0) {
                    takers[index] = trader;
                    after[trader][horizons[index]] += positions[index];
                    tryTakers(market, index + 1, free ^ 1 << trader);
                    after[trader][horizons[index]] -= positions[index];
                }
            }
        }

        private int sumOfMargins(Market market) {
            int sum = 0;
            for (int trader = 0; trader < market.traders; trader++) {
                if ((sound >> trader & 1) != 0) {
                    for (int on = 0; on < market.horizons; on++) {
                        int held = after[trader][on];
                        sum += (held < 0 ? -held : held) * market.range[on];
                    }
                }
            }
            return sum;
        }

        /** A set of as many takers as the first positions: one of them takes the last of these, the others the rest. */
        int leastOverSets(Market market) {
            int least = UNREACHED;
            for (int set = 0; set < 1 << market.traders; set++) {
                int size = Integer.bitCount(set);
                if ((set & ~sound) != 0 || size > needed) {
                    continue;
                }
                leastFor[set] = size == 0 ? sumOfMargins(market) : leastWithLast(market, set, size - 1);
                if (size == needed) {
                    least = Math.min(least, leastFor[set]);
                }
            }
            return least;
        }

        private int leastWithLast(Market market, int set, int last) {
            int least = UNREACHED;
            for (int trader = 0; trader < market.traders; trader++) {
                if ((set >> trader & 1) != 0) {
                    int held = after[trader][horizons[last]];
                    int growth = Math.abs(held + positions[last]) - Math.abs(held);
                    int sum = leastFor[set ^ 1 << trader] + growth * market.range[horizons[last]];
                    least = Math.min(least, sum);
                }
            }
            return least;
        }

        int takerOn(int on) {
            for (int index = 0; index < needed; index++) {
                if (horizons[index] == on) {
                    return bestTakers[index];
                }
            }
            return NONE;
        }
    }
}
