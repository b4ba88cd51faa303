/** Counts what was looked at, tells what is wrong, and gives short ways to type texts and to read the line. */
final class Check {
    private static int looked = 0;
    private static int wrong = 0;

    private Check() {
    }

    static void same(String what, Object got, Object want) {
        looked++;
        if (!String.valueOf(got).equals(String.valueOf(want))) {
            wrong++;
            System.out.println(what + ": got " + got + ", due is " + want);
        }
    }

    static void index(String what, Runnable call) {
        thrown(what, call, IndexOutOfBoundsException.class);
    }

    static void argument(String what, Runnable call) {
        thrown(what, call, IllegalArgumentException.class);
    }

    static void state(String what, Runnable call) {
        thrown(what, call, IllegalStateException.class);
    }

    static void unsupported(String what, Runnable call) {
        thrown(what, call, UnsupportedOperationException.class);
    }

    static void noElement(String what, Runnable call) {
        thrown(what, call, java.util.NoSuchElementException.class);
    }

    static void arithmetic(String what, Runnable call) {
        thrown(what, call, ArithmeticException.class);
    }

    static void thrown(String what, Runnable call, Class<?> want) {
        Object got = "no exception";
        try {
            call.run();
        } catch (RuntimeException e) {
            got = e.getClass();
        }
        same(what, got, want);
    }

    static void type(HorizonExchange x, String text) {
        for (int index = 0; index < text.length(); index++) {
            x.type(text.charAt(index));
        }
    }

    /** The number of commands of a text that is valid and succeeds. */
    static int run(HorizonExchange x, String text) {
        type(x, text);
        return x.execute();
    }

    /** The line as a text; its end must be where the length says. */
    static String line(HorizonExchange x, int length) {
        StringBuilder all = new StringBuilder();
        for (int index = 0; index < length; index++) {
            all.append(x.lineAt(index));
        }
        index("the line ends at " + length, () -> x.lineAt(length));
        return all.toString();
    }

    static void end() {
        System.out.println("  " + looked + " looked at, " + wrong + " wrong");
        System.exit(wrong == 0 ? 0 : 1);
    }
}
