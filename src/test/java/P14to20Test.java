/** Promises 14 to 20: legs, what a van would load, when vans come and meet, and forecasts. */
public final class P14to20Test {
    private static final int NONE = BranchCourier.NONE;
    private static final String TEXT =
        "branches 4;van 2 0 1 2;van 3 2 3;book 0;book 3;book 1;hold 4;ask 0 7 3;ask 0 8 0;ask 1 7 1;";

    public static void main(String[] args) {
        legs();
        wouldLoad();
        comesIn();
        meetIn();
        arrivesIn();
        arrivesAtTheLastTick();
        heldIn();
        bookIn();
        forecastsChangeNothing();
        forecastsBeyondTheTime();
        Due.end();
    }

    private static void legs() {
        Due.promise(14, "legs");
        BranchCourier x = Due.loaded("branches 6;van 1 0 1;van 1 1 2;van 1 2 3;van 1 3 4;");
        for (int from = 0; from < 6; from++) {
            for (int to = 0; to < 6; to++) {
                int due = from == to ? 0 : from == 5 || to == 5 ? NONE : Math.abs(from - to);
                Due.is("legs(" + from + ", " + to + ")", x.legs(from, to), due);
            }
        }
        x.close(2);
        Due.is("legs(0, 4) behind close(2)", x.legs(0, 4), NONE);
        Due.is("legs(1, 2) behind close(2)", x.legs(1, 2), NONE);
        Due.is("legs(2, 1) behind close(2)", x.legs(2, 1), NONE);
        Due.is("legs(2, 2) behind close(2)", x.legs(2, 2), NONE);
        Due.is("legs(0, 1) behind close(2)", x.legs(0, 1), 1);
        Due.is("legs(3, 4) behind close(2)", x.legs(3, 4), 1);
        x.undo();
        Due.is("legs(0, 4) behind undo", x.legs(0, 4), 4);
        x.close(2);
        x.saveSnapshot();
        x.open(2);
        Due.is("legs(4, 0) behind open(2)", x.legs(4, 0), 4);
        x.restoreSnapshot();
        Due.is("legs(4, 0) behind restoreSnapshot", x.legs(4, 0), NONE);
        Due.missing("legs(-1, 0)", () -> x.legs(-1, 0));
        Due.missing("legs(6, 0)", () -> x.legs(6, 0));
        Due.missing("legs(0, -1)", () -> x.legs(0, -1));
        Due.missing("legs(0, 6)", () -> x.legs(0, 6));
        BranchCourier y = Due.loaded("branches 4;van 1 0 1 2;van 1 2 0 3;van 1 1 3;");
        Due.is("the fewest of several ways", y.legs(1, 3), 1);
        y.close(1);
        Due.is("past a closed stop", y.legs(0, 2), 1);
        Due.is("legs(2, 3)", y.legs(2, 3), 1);
        y.close(0);
        Due.is("legs(0, 0) of a closed branch", y.legs(0, 0), NONE);
        y.open(0);
        Due.is("legs(0, 0) of an open branch", y.legs(0, 0), 0);
    }

    private static void wouldLoad() {
        Due.promise(15, "wouldLoad");
        BranchCourier x = Due.loaded(TEXT);
        Due.is("at its stop", x.wouldLoad(0, 0), true);
        Due.is("of a van without a stop there", x.wouldLoad(0, 1), false);
        Due.is("one leg nearer", x.wouldLoad(1, 1), true);
        Due.is("at its goal", x.wouldLoad(2, 0), false);
        x.close(0);
        Due.is("at a closed branch", x.wouldLoad(0, 0), false);
        x.undo();
        x.close(2);
        Due.is("without legs", x.wouldLoad(0, 0), false);
        x.undo();
        x.run(2);
        // Book 1 stands at 2, where both vans have a stop.
        Due.is("into the van that brings it nearer", x.wouldLoad(1, 0), true);
        Due.is("into the van that brings it back", x.wouldLoad(1, 1), false);
        x.run(1);
        Due.is("of a book in a van", x.wouldLoad(0, 0), false);
        x.run(4);
        Due.is("of a held book", x.wouldLoad(0, 1), false);
        x.ask(1, 1, 3);
        x.take(1, 7);
        Due.is("of a book with a reader", x.wouldLoad(1, 0), false);
        BranchCourier y = Due.loaded("branches 2;van 1 1 0;book 0;book 0;ask 0 1 1;ask 1 1 1;");
        y.run(1);
        Due.is("into a van that is full", y.wouldLoad(1, 0), true);
        y.close(1);
        Due.is("without a goal elsewhere", y.wouldLoad(1, 0), false);
        Due.missing("wouldLoad(-1, 0)", () -> x.wouldLoad(-1, 0));
        Due.missing("wouldLoad(3, 0)", () -> x.wouldLoad(3, 0));
        Due.missing("wouldLoad(0, -1)", () -> x.wouldLoad(0, -1));
        Due.missing("wouldLoad(0, 2)", () -> x.wouldLoad(0, 2));
    }

    private static void comesIn() {
        Due.promise(16, "comesIn");
        BranchCourier x = Due.loaded("branches 4;van 1 0 1 0 2;van 1 3 2;");
        int[][] due = {{2, 1, 3, NONE}, {1, 4, 2, NONE}, {2, 3, 1, NONE}, {1, 2, 4, NONE}, {2, 1, 3, NONE}};
        for (int time = 0; time < due.length; time++) {
            for (int branch = 0; branch < 4; branch++) {
                Due.is("comesIn(0, " + branch + ") at " + time, x.comesIn(0, branch), due[time][branch]);
            }
            x.run(1);
        }
        x.close(3);
        Due.is("comesIn(1, 3) of a closed branch", x.comesIn(1, 3), 1);
        Due.missing("comesIn(-1, 0)", () -> x.comesIn(-1, 0));
        Due.missing("comesIn(2, 0)", () -> x.comesIn(2, 0));
        Due.missing("comesIn(0, -1)", () -> x.comesIn(0, -1));
        Due.missing("comesIn(0, 4)", () -> x.comesIn(0, 4));
    }

    private static void meetIn() {
        Due.promise(17, "meetIn");
        BranchCourier x = Due.loaded("branches 6;van 1 0 1 0 1 0 1 5;van 1 2 3 2 3 2 3 2 5;van 1 0 1;van 1 1 0;");
        Due.is("meetIn(0, 1) behind nearly a whole circle", x.meetIn(0, 1), 55);
        Due.is("meetIn(1, 0)", x.meetIn(1, 0), 55);
        Due.is("meetIn(2, 3) of vans that pass by", x.meetIn(2, 3), NONE);
        Due.is("meetIn(0, 2)", x.meetIn(0, 2), 1);
        Due.is("meetIn(1, 2) without a common branch", x.meetIn(1, 2), NONE);
        x.run(55);
        Due.is("meetIn(0, 1) where both stand", x.meetIn(0, 1), 56);
        x.close(5);
        Due.is("meetIn(0, 1) at a closed branch", x.meetIn(0, 1), 56);
        Due.missing("meetIn(1, 1)", () -> x.meetIn(1, 1));
        Due.missing("meetIn(-1, 1)", () -> x.meetIn(-1, 1));
        Due.missing("meetIn(4, 1)", () -> x.meetIn(4, 1));
        Due.missing("meetIn(1, -1)", () -> x.meetIn(1, -1));
        Due.missing("meetIn(1, 4)", () -> x.meetIn(1, 4));
        Due.missing("meetIn(4, 4)", () -> x.meetIn(4, 4));
    }

    private static void arrivesIn() {
        Due.promise(18, "arrivesIn");
        BranchCourier x = Due.loaded(TEXT);
        Due.is("arrivesIn(0)", x.arrivesIn(0), 7);
        Due.is("arrivesIn(1)", x.arrivesIn(1), 7);
        Due.is("arrivesIn(2) at its goal", x.arrivesIn(2), 0);
        x.run(6);
        Due.is("arrivesIn(0) in a van", x.arrivesIn(0), 1);
        x.run(1);
        Due.is("arrivesIn(0) of a held book", x.arrivesIn(0), 0);
        x.close(2);
        x.recall(0);
        Due.is("arrivesIn(0) without a way", x.arrivesIn(0), NONE);
        x.undo();
        x.undo();
        x.take(0, 7);
        Due.is("arrivesIn(0) of a book with a reader", x.arrivesIn(0), NONE);
        x.recall(1);
        // Behind the recall book 1 goes on to reader 7 again; at its home it is not on the shelf of its goal of then.
        Due.is("arrivesIn(1) of a recalled book", x.arrivesIn(1), 12);
        Due.is("bookIn(1, 1, 6) of a recalled book", x.bookIn(1, 1, 6), 3);
        Due.is("bookIn(1, 5, 6) of a recalled book", x.bookIn(1, 5, 6), 0);
        Due.missing("arrivesIn(-1)", () -> x.arrivesIn(-1));
        Due.missing("arrivesIn(3)", () -> x.arrivesIn(3));
    }

    /**
     * A van that has room for one book goes from 0 to 1 once in eight ticks. Twelve books go there twice, each ahead
     * of the book 12, which so arrives with the 25th round.
     */
    private static void arrivesAtTheLastTick() {
        Due.promise(18, "arrivesIn at 200 and 201");
        BranchCourier x = Due.loaded(rounds("1 2 1 2 1 2 1 0"));
        Due.is("arrivesIn(12) at the last tick", x.arrivesIn(12), 200);
        Due.is("bookIn(12, 0, 200)", x.bookIn(12, 0, 200), 2);
        Due.is("bookIn(12, 7, 200)", x.bookIn(12, 7, 200), 201);
        BranchCourier y = Due.loaded(rounds("0 1 2 1 2 1 2 1"));
        Due.is("arrivesIn(12) a tick too late", y.arrivesIn(12), NONE);
        Due.is("bookIn(12, 0, 200)", y.bookIn(12, 0, 200), 1);
        y.run(1);
        Due.is("arrivesIn(12) a tick later", y.arrivesIn(12), 200);
        for (int time = 1; time < 200; time++) {
            y.run(1);
        }
        Due.is("book(12, 0) at 200", y.book(12, 0), 1);
        y.run(1);
        Due.is("book(12, 0) at 201", y.book(12, 0), 2);
    }

    private static String rounds(String route) {
        StringBuilder text = new StringBuilder("branches 3;van 1 " + route + ";" + "book 0;".repeat(13) + "hold 1;");
        for (int book = 0; book < 12; book++) {
            for (int reader = 0; reader < 3; reader++) {
                text.append("ask ").append(book).append(" ").append(reader).append(reader == 1 ? " 0;" : " 1;");
            }
        }
        return text.append("ask 12 0 1;").toString();
    }

    private static void heldIn() {
        Due.promise(19, "heldIn");
        BranchCourier x = Due.loaded(TEXT);
        Due.is("heldIn(0, 7)", x.heldIn(0, 7), 7);
        // Reader 7 has it until 11; van 1 takes it to 2 in the ticks 13 and 14, van 0 on from there in 17 and 18.
        Due.is("heldIn(0, 8)", x.heldIn(0, 8), 18);
        Due.is("heldIn(1, 7)", x.heldIn(1, 7), 7);
        Due.is("heldIn(1, 8) without a request", x.heldIn(1, 8), NONE);
        Due.is("heldIn(2, -1)", x.heldIn(2, -1), NONE);
        x.run(7);
        Due.is("heldIn(0, 7) now", x.heldIn(0, 7), 0);
        x.take(0, 7);
        Due.is("heldIn(0, 7) of its reader", x.heldIn(0, 7), NONE);
        Due.missing("heldIn(-1, 0)", () -> x.heldIn(-1, 0));
        Due.missing("heldIn(3, 0)", () -> x.heldIn(3, 0));
        String asks = "book 0;hold 32;ask 0 0 1;ask 0 1 1;ask 0 2 1;ask 0 3 1;ask 0 4 1;ask 0 5 1;ask 0 6 1;ask 0 7 1;";
        BranchCourier y = Due.loaded("branches 2;van 1 1 0;" + asks);
        Due.is("heldIn(0, 0)", y.heldIn(0, 0), 2);
        Due.is("heldIn(0, 6) at the last tick", y.heldIn(0, 6), 200);
        Due.is("heldIn(0, 7) too late", y.heldIn(0, 7), NONE);
        BranchCourier z = Due.loaded("branches 2;van 1 0 1;" + asks);
        Due.is("heldIn(0, 5)", z.heldIn(0, 5), 168);
        Due.is("heldIn(0, 6) a tick too late", z.heldIn(0, 6), NONE);
    }

    private static void bookIn() {
        Due.promise(20, "bookIn");
        BranchCourier x = Due.loaded(TEXT);
        int[] now = {0, 0, 0, 3, 2, 0, NONE, NONE, 2};
        int[] in5 = {0, 2, 0, 3, 2, 0, NONE, NONE, 1};
        int[] in7 = {2, 3, 0, 3, 2, 0, 7, 11, 0};
        int[] in12 = {0, 3, 0, 0, 1, 0, NONE, NONE, 2};
        for (int what = 0; what < now.length; what++) {
            Due.is("bookIn(0, " + what + ", 0)", x.bookIn(0, what, 0), now[what]);
            Due.is("bookIn(0, " + what + ", 5)", x.bookIn(0, what, 5), in5[what]);
            Due.is("bookIn(0, " + what + ", 7)", x.bookIn(0, what, 7), in7[what]);
            Due.is("bookIn(0, " + what + ", 11)", x.bookIn(0, what, 11), in7[what]);
            Due.is("bookIn(0, " + what + ", 12)", x.bookIn(0, what, 12), in12[what]);
        }
        Due.is("bookIn(0, 4, 200)", x.bookIn(0, 4, 200), 0);
        Due.missing("bookIn(-1, 0, 0)", () -> x.bookIn(-1, 0, 0));
        Due.missing("bookIn(3, 0, 201)", () -> x.bookIn(3, 0, 201));
        Due.missing("bookIn(0, -1, 0)", () -> x.bookIn(0, -1, 0));
        Due.missing("bookIn(0, 9, -1)", () -> x.bookIn(0, 9, -1));
        Due.illegal("bookIn(0, 0, -1)", () -> x.bookIn(0, 0, -1));
        Due.illegal("bookIn(0, 0, 201)", () -> x.bookIn(0, 0, 201));
    }

    private static void forecastsChangeNothing() {
        Due.promise(20, "what forecasts leave");
        BranchCourier x = Due.loaded(TEXT);
        x.run(3);
        x.bookIn(0, 0, 200);
        x.heldIn(0, 99);
        x.arrivesIn(0);
        Due.is("size(5)", x.size(5), 3);
        Due.is("undoCount()", x.undoCount(), 1);
        Due.is("format(0)", Due.format(x, 0), "0>0 7:3 8:0");
        Due.is("format(1)", Due.format(x, 1), "1@2 7:1");
        Due.is("van(0, 2)", x.van(0, 2), 0);
        Due.is("size(4)", x.size(4), 3);
    }

    private static void forecastsBeyondTheTime() {
        Due.promise(20, "forecasts beyond the time 9999");
        BranchCourier x = Due.loaded("branches 2;van 1 0 1;book 0;hold 50;");
        for (int i = 0; i < 101; i++) {
            x.run(99);
        }
        x.ask(0, 5, 1);
        // At 9999 the van stands at 1; it loads the book at 10000.
        Due.is("heldIn(0, 5)", x.heldIn(0, 5), 2);
        Due.is("arrivesIn(0)", x.arrivesIn(0), 2);
        Due.is("bookIn(0, 7, 2)", x.bookIn(0, 7, 2), 10051);
        Due.is("bookIn(0, 0, 52)", x.bookIn(0, 0, 52), 2);
        Due.is("bookIn(0, 0, 53)", x.bookIn(0, 0, 53), 0);
        Due.is("bookIn(0, 0, 54)", x.bookIn(0, 0, 54), 1);
        Due.is("size(5)", x.size(5), 9999);
    }
}
