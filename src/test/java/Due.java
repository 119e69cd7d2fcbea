import java.io.IOException;
import java.nio.file.Files;
import java.nio.file.Path;
import java.util.NoSuchElementException;
import java.util.function.IntConsumer;
import java.util.function.ToIntFunction;

/** Counts the answers that are due, names the sentences of the document that ask for them, and feeds texts. */
final class Due {
    static final Path DOC = Path.of("../shared/DOC.md");
    private static int passed = 0;
    private static int failed = 0;
    private static String promise = "";
    private static int checksOfSentence = 1;

    private Due() {
    }

    static void promise(int number, String what) {
        promise = number + " " + what;
    }

    /** The checks from here on are for these words of a promise. */
    static void sentence(int number, String words) {
        sentence("Promise " + number, words);
    }

    /** The checks from here on are for these words of a section; they must stand there, and must have a check. */
    static void sentence(String section, String words) {
        endSentence();
        promise = "'" + section + "', '" + words + "'";
        check("the document", plain(section(section)).contains(plain(words)), "has no such words");
        checksOfSentence = 0;
    }

    private static void endSentence() {
        check("the sentence", checksOfSentence > 0, "has no check");
    }

    /** What stands in the document below a heading, up to the next one. */
    private static String section(String heading) {
        StringBuilder text = new StringBuilder();
        boolean inside = false;
        try {
            for (String line : Files.readAllLines(DOC)) {
                if (line.startsWith("#")) {
                    inside = line.matches("#+ " + heading + "(:.*)?");
                } else if (inside) {
                    text.append(line).append(' ');
                }
            }
        } catch (IOException e) {
            return "";
        }
        return text.toString();
    }

    /** Words without the signs that only set them out. */
    static String plain(String words) {
        return words.replace("`", "").replaceAll("\\s+", " ");
    }

    static void check(String call, boolean right, String told) {
        checksOfSentence++;
        if (right) {
            passed++;
        } else {
            failed++;
            System.out.println("FAIL promise " + promise + ": " + call + " " + told);
        }
    }

    static void is(String call, long got, long want) {
        check(call, got == want, "answered " + got + ", due is " + want);
    }

    static void is(String call, boolean got, boolean want) {
        check(call, got == want, "answered " + got + ", due is " + want);
    }

    static void isExactly(String call, double got, double want) {
        check(call, got == want, "answered " + got + ", due is " + want);
    }

    static void is(String call, String got, String want) {
        check(call, got.equals(want), "answered '" + got + "', due is '" + want + "'");
    }

    static void missing(String call, Runnable run) {
        throwing(call, run, NoSuchElementException.class);
    }

    static void illegal(String call, Runnable run) {
        throwing(call, run, IllegalArgumentException.class);
    }

    private static void throwing(String call, Runnable run, Class<?> want) {
        String due = want == null ? "nothing" : want.getName();
        String got = "nothing";
        try {
            run.run();
        } catch (RuntimeException e) {
            got = e.getClass().getName();
        }
        check(call, got.equals(due), "threw " + got + ", due is " + due);
    }

    /** Numbers count from 0 up to count - 1; one beyond throws, and so do those that a shift or a sum would wrap. */
    static void counted(String call, IntConsumer run, int count) {
        for (int wrong : new int[] {-1, count, count + 32, Integer.MIN_VALUE, Integer.MAX_VALUE}) {
            missing(call + " with " + wrong, () -> run.accept(wrong));
        }
        for (int right : new int[] {0, count - 1}) {
            throwing(call + " with " + right, () -> run.accept(right), null);
        }
    }

    /** A refused call: a negative error code, or an exception, and nothing that can be asked of x has changed. */
    static void refused(BranchCourier x, String call, ToIntFunction<BranchCourier> run, int code) {
        String before = toldWhole(x);
        is(call, run.applyAsInt(x), code);
        is("the library behind the refused " + call, toldWhole(x), before);
    }

    static void refusedAsMissing(BranchCourier x, String call, ToIntFunction<BranchCourier> run) {
        String before = toldWhole(x);
        missing(call, () -> run.applyAsInt(x));
        is("the library behind the refused " + call, toldWhole(x), before);
    }

    static void refusedAsIllegal(BranchCourier x, String call, ToIntFunction<BranchCourier> run) {
        String before = toldWhole(x);
        illegal(call, () -> run.applyAsInt(x));
        is("the library behind the refused " + call, toldWhole(x), before);
    }

    private static String toldWhole(BranchCourier x) {
        return "undoCount " + x.undoCount() + " errorPosition " + x.errorPosition() + " " + told(x);
    }

    /** All that undoing restores, as far as it can be asked for; some hundred calls for a small library. */
    static String told(BranchCourier x) {
        StringBuilder t = new StringBuilder();
        t.append("size ");
        for (int what = 0; what < 13; what++) {
            t.append(x.size(what)).append(' ');
        }
        for (int book = 0; book < x.size(3); book++) {
            t.append("book ");
            for (int what = 0; what < 9; what++) {
                t.append(x.book(book, what)).append(' ');
            }
            for (int i = 0; i < x.book(book, 4); i++) {
                t.append(x.request(book, i, 0)).append(':').append(x.request(book, i, 1)).append(' ');
            }
        }
        for (int van = 0; van < x.size(2); van++) {
            t.append("van ");
            for (int what = 0; what < 6; what++) {
                t.append(x.van(van, what)).append(' ');
            }
        }
        for (int branch = 0; branch < x.size(0); branch++) {
            t.append("branch ");
            for (int what = 0; what < 6; what++) {
                t.append(x.branch(branch, what)).append(' ');
            }
            for (int other = 0; other < x.size(0); other++) {
                t.append(x.legs(branch, other)).append(' ');
            }
        }
        return t.toString();
    }

    /** Prints the counts for .ci/run; a test that fails ends with exit code 1. */
    static void end() {
        endSentence();
        System.out.println("COUNT " + passed + " " + failed);
        if (failed != 0) {
            System.exit(1);
        }
    }

    /** Feeds a text, filled up with blanks to a multiple of 20 bytes; each char is one byte. */
    static void feed(BranchCourier x, String text) {
        for (int i = 0; i < text.length(); i += 20) {
            x.feed(four(text, i), four(text, i + 4), four(text, i + 8), four(text, i + 12), four(text, i + 16));
        }
    }

    static int four(String text, int at) {
        int word = 0;
        for (int i = at; i < at + 4; i++) {
            word = word << 8 | (i < text.length() ? text.charAt(i) & 255 : ' ');
        }
        return word;
    }

    static int load(BranchCourier x, String text) {
        feed(x, text);
        return x.load(text.length());
    }

    static void good(String text, int books) {
        BranchCourier x = new BranchCourier();
        is("load of '" + text + "'", load(x, text), books);
        is("errorPosition() of '" + text + "'", x.errorPosition(), BranchCourier.NONE);
    }

    /** The error is due at the byte behind the ^, which is no part of the text. */
    static void bad(String marked, int code) {
        int position = marked.indexOf('^');
        String text = marked.substring(0, position) + marked.substring(position + 1);
        BranchCourier x = new BranchCourier();
        is("load of '" + text + "'", load(x, text), -10 - code);
        is("errorPosition() of '" + text + "'", x.errorPosition(), position);
    }

    static void badQuery(BranchCourier x, String marked, int code) {
        int position = marked.indexOf('^');
        String text = marked.substring(0, position) + marked.substring(position + 1);
        is("query of '" + text + "'", query(x, text), BranchCourier.HIDDEN - code);
        is("errorPosition() of '" + text + "'", x.errorPosition(), position);
    }

    /**
     * At the time 4: 0 with reader 4, 1 and 2 held at 1 (until 11 and 10), 3 recalled and in van 0, 4 lost, 5 at its
     * home 2, which is closed; undoCount 7. Van 0 goes between 1 and 0, van 1 between 3 and 1, none to 2.
     */
    static BranchCourier everyState() {
        BranchCourier x = loaded("branches 4;van 3 1 0;van 3 3 1;book 1;book 0;book 1;book 0;book 3;book 2;hold 9;"
            + "ask 0 4 1;ask 1 4 1;ask 2 5 1;ask 2 6 2;ask 3 4 3;ask 4 4 1;ask 3 7 3;ask 3 8 1;");
        x.run(1);
        x.take(0, 4);
        x.run(1);
        x.lose(1);
        x.recall(3);
        x.run(2);
        x.close(2);
        return x;
    }

    /** Two books at their home 0, the first with 40 requests (of the readers 0 to 39) at 1. */
    static String fortyRequests() {
        StringBuilder text = new StringBuilder("branches 2;van 5 0 1;book 0;book 0;");
        for (int reader = 0; reader < 40; reader++) {
            text.append("ask 0 ").append(reader).append(" 1;");
        }
        return text.toString();
    }

    static BranchCourier loaded(String text) {
        BranchCourier x = new BranchCourier();
        int answer = load(x, text);
        check("load of " + text, answer >= 0, "answered " + answer);
        return x;
    }

    static int query(BranchCourier x, String text) {
        feed(x, text);
        return x.query(text.length());
    }

    static String format(BranchCourier x, int book) {
        return formatted(x, x.format(book));
    }

    static String formatted(BranchCourier x, int length) {
        StringBuilder text = new StringBuilder();
        for (int i = 0; i < length; i++) {
            text.append((char) x.formattedByte(i));
        }
        return text.toString();
    }
}
