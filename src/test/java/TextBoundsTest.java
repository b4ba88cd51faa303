/** Where a text stops being one: its digits, its numbers, its end, and the first character that is wrong. */
public final class TextBoundsTest {
    /** Each command in its longest form. */
    private static final String[] LONGEST = {"horizon 99 20", "trader 9999", "trade 0 1 0 20 9", "quote 0 99", "dawn",
        "pay 0 9999", "draw 0 9999", "give 0 9999"};
    private static final String[] SHORTEST = {"horizon 9 1", "trader 0", "trade 0 1 0 1 1", "quote 0 9", "dawn", "pay 0 9",
        "draw 0 9", "give 0 9"};

    public static void main(String[] args) {
        digits();
        oneDigitTooMany();
        noDigit();
        leadingZeros();
        endsTooEarly();
        firstWrongCharacter();
        betweenCommands();
        numbersThatTextsReach();
        howManyCommands();
        failuresAndTheirIndex();
        malformedComesBeforeFailing();
        nothingMalformedSoFar();
        Check.end();
    }

    static void fails(HorizonExchange x, String text, int index) {
        String before = Look.brief(x);
        Check.type(x, text);
        Check.state("47 " + text, x::execute);
        Check.same("49 " + text, x.failedCommand(), index);
        Check.same("47 all is taken back of " + text, Look.brief(x), before);
    }

    private static void malformed(HorizonExchange x, String text, int position) {
        String before = Look.brief(x);
        Check.type(x, text);
        Check.argument("47 " + text, x::execute);
        Check.same("48 " + text, x.errorPosition(), position);
        Check.same("47 nothing is done by " + text, Look.brief(x), before);
    }

    private static void malformed(String text, int position) {
        malformed(rich(), text, position);
    }

    private static HorizonExchange rich() {
        HorizonExchange x = new HorizonExchange();
        x.addHorizon(50, 1);
        x.addTrader(9999);
        x.addTrader(9999);
        return x;
    }

    private static void digits() {
        for (String text : LONGEST) {
            Check.same("47 " + text, Check.run(rich(), text), 1);
        }
        for (String text : SHORTEST) {
            Check.same("47 " + text, Check.run(rich(), text), 1);
        }
        for (String text : new String[] {"horizon 9 20", "horizon 99 9", "trader 99", "trader 999", "pay 0 99", "pay 1 999",
            "draw 1 99", "draw 0 999", "give 0 99", "give 1 999", "trade 1 0 0 9 9"}) {
            Check.same("47 " + text, Check.run(rich(), text), 1);
        }
    }

    private static void oneDigitTooMany() {
        malformed("horizon 099 20", 10);
        malformed("horizon 99 020", 13);
        malformed("horizon 9 020", 12);
        malformed("trader 09999", 11);
        malformed("trade 00 1 0 20 9", 7);
        malformed("trade 0 01 0 20 9", 9);
        malformed("trade 0 1 00 20 9", 11);
        malformed("trade 0 1 0 020 9", 14);
        malformed("trade 0 1 0 20 09", 16);
        malformed("trade 0 1 0 2 09", 15);
        malformed("quote 00 99", 7);
        malformed("quote 0 099", 10);
        malformed("pay 00 9999", 5);
        malformed("pay 0 09999", 10);
        malformed("draw 00 9999", 6);
        malformed("draw 0 09999", 11);
        malformed("give 00 9999", 6);
        malformed("give 0 09999", 11);
    }

    private static void noDigit() {
        malformed("horizon  5", 8);
        malformed("horizon 5  5", 10);
        malformed("trader  5", 7);
        malformed("trade  1 0 20 9", 6);
        malformed("trade 0 1 0  9", 12);
        malformed("quote 0  ", 8);
        malformed("pay  9", 4);
        malformed("draw 0  9", 7);
        malformed("give 0 ;dawn", 7);
        malformed("trader -1", 7);
        malformed("trader +1", 7);
        malformed("pay 0 1.5", 7);
        malformed("pay 0 /", 6);
        malformed("pay 0 :", 6);
        malformed("pay 0 9/", 7);
        malformed("pay 0 9:", 7);
    }

    private static void leadingZeros() {
        HorizonExchange x = rich();
        Check.same("47 zeros", Check.run(x, "horizon 01 01;quote 1 09;pay 0 0001;draw 0 001;give 1 01"), 5);
        Check.same("47 what they say", x.priceOf(1) + " " + x.rangeOf(1) + " " + x.quoteOf(1), "1 1 9");
        Check.same("47 what they say", x.moneyOf(0) + " " + x.moneyOf(1) + " " + x.withdrawn() + " " + x.fund(),
            "9999 9998 1 1");
        Check.same("47 no money", Check.run(x, "trader 0000;trader 0;trade 0 1 0 01 1") + " " + x.moneyOf(2), "3 0");
    }

    /** Each beginning of a command that is no text yet ends at its length, alone and behind another command. */
    private static void endsTooEarly() {
        for (String text : LONGEST) {
            for (int length = 0; length < text.length(); length++) {
                String start = text.substring(0, length);
                if (!isShorterText(start)) {
                    malformed(start, length);
                    malformed("quote 0 7;" + start, 10 + length);
                }
            }
        }
        malformed("", 0);
        malformed("dawn;", 5);
        malformed("pay 0 9999;", 11);
    }

    /** A command whose last number could go on. */
    private static boolean isShorterText(String start) {
        return start.matches("horizon 99 2|trader 9+|quote 0 9|(pay|draw|give) 0 9+");
    }

    /** A character that fits nowhere, in the place of each character and behind the last one. */
    private static void firstWrongCharacter() {
        for (String text : LONGEST) {
            for (int place = 0; place <= text.length(); place++) {
                for (char wrong : new char[] {'~', '!', 'D', '/', ':', '-'}) {
                    String changed = text.substring(0, place) + wrong + text.substring(Math.min(place + 1, text.length()));
                    malformed(changed, place);
                    malformed("dawn;" + changed, 5 + place);
                }
            }
        }
    }

    private static void betweenCommands() {
        malformed("dawn ;dawn", 4);
        malformed("dawn; dawn", 5);
        malformed("dawn;;dawn", 5);
        malformed(";dawn", 0);
        malformed(" dawn", 0);
        malformed("dawn ", 4);
        malformed("dawn,dawn", 4);
        malformed("dawndawn", 4);
        malformed("quote 0 5dawn", 9);
        malformed("quote 0 55;;", 11);
        malformed("trader 5 ", 8);
        malformed("trader 5;x", 9);
        malformed("Dawn", 0);
        malformed("dAwn", 1);
        malformed("dawN", 3);
        malformed("traders", 6);
        malformed("tradr 5", 4);
        malformed("trade;", 5);
        malformed("trader;", 6);
        malformed("horizons 5 5", 7);
    }

    /** What a text may say and its method refuses: such a command fails, its neighbour within the bounds does not. */
    private static void numbersThatTextsReach() {
        String[][] rows = {{"horizon 0 1", "horizon 1 1"}, {"horizon 00 20", "horizon 99 20"}, {"horizon 1 0", "horizon 1 1"},
            {"horizon 99 21", "horizon 99 20"}, {"horizon 99 99", "horizon 99 19"}, {"quote 0 0", "quote 0 1"},
            {"quote 0 00", "quote 0 99"}, {"quote 1 5", "quote 0 5"}, {"quote 9 5", "quote 0 5"},
            {"trade 0 1 0 0 5", "trade 0 1 0 1 5"}, {"trade 0 1 0 21 5", "trade 0 1 0 20 5"},
            {"trade 0 1 0 99 5", "trade 0 1 0 19 5"}, {"trade 0 1 0 5 0", "trade 0 1 0 5 1"},
            {"trade 0 1 1 5 5", "trade 0 1 0 5 5"}, {"trade 0 2 0 5 5", "trade 0 1 0 5 5"},
            {"trade 2 1 0 5 5", "trade 0 1 0 5 9"}, {"trade 1 1 0 5 5", "trade 1 0 0 5 5"}, {"pay 0 0", "pay 0 1"},
            {"pay 0 0000", "pay 0 9999"}, {"pay 2 1", "pay 1 1"}, {"draw 0 0", "draw 0 1"}, {"draw 2 1", "draw 1 1"},
            {"draw 9 1", "draw 1 9999"}, {"give 0 0", "give 0 1"}, {"give 2 1", "give 1 1"}, {"give 9 1", "give 1 9999"}};
        for (String[] row : rows) {
            HorizonExchange x = rich();
            fails(x, row[0], 0);
            fails(x, "dawn;" + row[0], 1);
            fails(x, row[1] + ";" + row[0], 1);
            Check.same("47 " + row[1], Check.run(x, row[1]), 1);
            Check.same("49 stays", x.failedCommand(), 1);
        }
    }

    private static void howManyCommands() {
        StringBuilder text = new StringBuilder("dawn");
        for (int count = 1; count <= 12; count++) {
            HorizonExchange x = new HorizonExchange();
            Check.same("47 commands", Check.run(x, text.toString()), count);
            Check.same("39 dawns", x.dayCount(), count);
            Check.same("50 one modification", x.undo() + " " + x.dayCount(), "0 0");
            malformed(text + ";", text.length() + 1);
            text.append(";dawn");
        }
        Check.same("a thirteenth does not fit", text.length(), 64);
    }

    private static void failuresAndTheirIndex() {
        for (int index = 0; index < 11; index++) {
            StringBuilder text = new StringBuilder();
            for (int command = 0; command < index; command++) {
                text.append("dawn;");
            }
            HorizonExchange x = rich();
            fails(x, text + "pay 9 1", index);
            if (index < 10) {
                fails(x, text + "pay 9 1;dawn", index);
                Check.same("39 no dawn", x.dayCount(), 0);
            }
        }
        HorizonExchange y = rich();
        fails(y, "quote 0 9;pay 0 9;draw 1 9;give 1 9;dawn;trader 9;quote 9 9", 6);
        fails(y, "horizon 9 9;trade 0 1 1 9 9;dawn;trade 0 1 1 9 9;quote 2 1", 4);
    }

    /** The first command would fail, but the text is malformed behind it. */
    private static void malformedComesBeforeFailing() {
        HorizonExchange x = rich();
        malformed(x, "pay 9 1;dawn;", 13);
        Check.noElement("49 nothing failed", x::failedCommand);
        fails(x, "dawn;dawn;pay 9 1", 2);
        malformed(x, "pay 9 1;dawx", 11);
        Check.same("49 stays", x.failedCommand(), 2);
        fails(x, "pay 9 1", 0);
        Check.same("48 stays", x.errorPosition(), 11);
    }

    private static void nothingMalformedSoFar() {
        HorizonExchange x = rich();
        Check.noElement("48 at first", x::errorPosition);
        Check.noElement("49 at first", x::failedCommand);
        Check.run(x, "dawn");
        Check.noElement("48 after a good text", x::errorPosition);
        Check.noElement("49 after a good text", x::failedCommand);
        fails(x, "pay 9 1", 0);
        Check.noElement("48 after a text that failed", x::errorPosition);
        Check.argument("47 empty", x::execute);
        Check.same("48 the least", x.errorPosition(), 0);
        Check.type(x, Places.SIXTY);
        Check.argument("47 sixty", x::execute);
        Check.same("48 the greatest", x.errorPosition(), 60);
        Check.run(x, "dawn");
        Check.same("48 the last one that was malformed", x.errorPosition(), 60);
        x.save();
        x.restore();
        Check.same("48 is not restored", x.errorPosition() + " " + x.failedCommand(), "60 0");
    }
}
