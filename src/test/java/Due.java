import java.util.NoSuchElementException;

/** Counts the answers that are due, and feeds texts. */
final class Due {
    private static int passed = 0;
    private static int failed = 0;
    private static String promise = "";

    private Due() {
    }

    static void promise(int number, String what) {
        promise = number + " " + what;
    }

    static void check(String call, boolean right, String told) {
        if (right) {
            passed++;
        } else {
            failed++;
            System.out.println("FAIL promise " + promise + ": " + call + " " + told);
        }
    }

    static void is(String call, long got, long want) {
        check(call, got == want, "answered " + got + ", due is " + want);
    }

    static void is(String call, boolean got, boolean want) {
        check(call, got == want, "answered " + got + ", due is " + want);
    }

    static void isExactly(String call, double got, double want) {
        check(call, got == want, "answered " + got + ", due is " + want);
    }

    static void is(String call, String got, String want) {
        check(call, got.equals(want), "answered '" + got + "', due is '" + want + "'");
    }

    static void missing(String call, Runnable run) {
        throwing(call, run, NoSuchElementException.class);
    }

    static void illegal(String call, Runnable run) {
        throwing(call, run, IllegalArgumentException.class);
    }

    private static void throwing(String call, Runnable run, Class<?> want) {
        String got = "nothing";
        try {
            run.run();
        } catch (RuntimeException e) {
            got = e.getClass().getName();
        }
        check(call, got.equals(want.getName()), "threw " + got + ", due is " + want.getName());
    }

    /** Prints the counts for .ci/run; a test that fails ends with exit code 1. */
    static void end() {
        System.out.println("COUNT " + passed + " " + failed);
        if (failed != 0) {
            System.exit(1);
        }
    }

    /** Feeds a text, filled up with blanks to a multiple of 20 bytes; each char is one byte. */
    static void feed(BranchCourier x, String text) {
        for (int i = 0; i < text.length(); i += 20) {
            x.feed(four(text, i), four(text, i + 4), four(text, i + 8), four(text, i + 12), four(text, i + 16));
        }
    }

    static int four(String text, int at) {
        int word = 0;
        for (int i = at; i < at + 4; i++) {
            word = word << 8 | (i < text.length() ? text.charAt(i) & 255 : ' ');
        }
        return word;
    }

    static int load(BranchCourier x, String text) {
        feed(x, text);
        return x.load(text.length());
    }

    static BranchCourier loaded(String text) {
        BranchCourier x = new BranchCourier();
        int answer = load(x, text);
        check("load of " + text, answer >= 0, "answered " + answer);
        return x;
    }

    static int query(BranchCourier x, String text) {
        feed(x, text);
        return x.query(text.length());
    }

    static String format(BranchCourier x, int book) {
        return formatted(x, x.format(book));
    }

    static String formatted(BranchCourier x, int length) {
        StringBuilder text = new StringBuilder();
        for (int i = 0; i < length; i++) {
            text.append((char) x.formattedByte(i));
        }
        return text.toString();
    }
}
