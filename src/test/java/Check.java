/** What the tests share: they print every answer that is not due, and end with exit code 1 if there was one. */
final class Check {
    interface Call {
        Object run();
    }

    private static int asked = 0;
    private static int wrong = 0;
    /** What the answers are looked at for, told ahead of each one that is not due. */
    private static String about = "";

    private Check() {
    }

    static void about(String matter) {
        about = matter;
    }

    static int asked() {
        return asked;
    }

    static void is(String what, Object got, Object due) {
        asked++;
        if (!got.equals(due)) {
            tellWrong(what, got, due);
        }
    }

    /** The class must be that very one, and the class TrouserWash must have thrown it: not the machine, nor the library. */
    static void fails(String what, Class<? extends RuntimeException> due, Call call) {
        asked++;
        Object got;
        try {
            got = call.run();
        } catch (RuntimeException e) {
            got = isThrownByTheClass(e) ? e.getClass() : e + ", which it did not throw itself";
        }
        if (got != due) {
            tellWrong(what, got, due);
        }
    }

    private static boolean isThrownByTheClass(RuntimeException e) {
        StackTraceElement[] trace = e.getStackTrace();
        return trace.length > 0 && trace[0].getClassName().startsWith("TrouserWash");
    }

    private static void tellWrong(String what, Object got, Object due) {
        wrong++;
        System.out.println(about + what + " answered " + got + ", due is " + due);
    }

    static void index(String what, Call call) {
        fails(what, IndexOutOfBoundsException.class, call);
    }

    static void argument(String what, Call call) {
        fails(what, IllegalArgumentException.class, call);
    }

    static void element(String what, Call call) {
        fails(what, java.util.NoSuchElementException.class, call);
    }

    static void state(String what, Call call) {
        fails(what, IllegalStateException.class, call);
    }

    static void full(String what, Call call) {
        fails(what, UnsupportedOperationException.class, call);
    }

    /** Puts a text on the TAPE, which must be empty. */
    static void put(TrouserWash x, String text) {
        for (int i = 0; i < text.length(); i += 20) {
            x.feed(four(text, i), four(text, i + 4), four(text, i + 8), four(text, i + 12), four(text, i + 16));
        }
        x.end(text.length());
    }

    private static int four(String text, int at) {
        int number = 0;
        for (int i = at; i < at + 4; i++) {
            number = number << 8 | (i < text.length() ? text.charAt(i) : 0);
        }
        return number;
    }

    static int recipe(TrouserWash x, String text) {
        put(x, text);
        return x.recipe();
    }

    static int house(TrouserWash x, String text) {
        put(x, text);
        return x.house();
    }

    static void done(String name) {
        System.out.println(name + ": " + asked + " answers looked at, " + wrong + " wrong");
        if (wrong != 0) {
            System.exit(1);
        }
    }
}
