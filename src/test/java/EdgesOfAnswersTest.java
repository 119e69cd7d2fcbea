/** The sentences of promises 5 to 26 that name edges, each with checks of its own. */
public final class EdgesOfAnswersTest {
    private static final int NONE = BranchCourier.NONE;

    public static void main(String[] args) {
        size();
        book();
        van();
        stop();
        inVan();
        branch();
        request();
        placeOf();
        requestsOf();
        legs();
        wouldLoad();
        comesIn();
        meetIn();
        arrivesIn();
        heldIn();
        bookIn();
        fullest();
        mostWanted();
        stranded();
        hub();
        loaded();
        lostShare();
        Due.end();
    }

    private static void size() {
        Due.sentence(5, "what 0 branches, 1 open ones, 2 vans, 3 books, 4 requests, 5 the time, 6 HOLD,"
            + " 7 to 11 the books in the states 0 to 4, 12 recalled books");
        BranchCourier x = Due.everyState();
        int[] due = {4, 3, 2, 6, 7, 4, 9, 1, 1, 2, 1, 1, 1};
        int[] fresh = {2, 2, 1, 0, 0, 0, 10, 0, 0, 0, 0, 0, 0};
        for (int what = 0; what < due.length; what++) {
            Due.is("size(" + what + ")", x.size(what), due[what]);
            Due.is("size(" + what + ") of a new object", new BranchCourier().size(what), fresh[what]);
        }
        Due.sentence(5, "Throws NoSuchElementException if what is out of range");
        Due.counted("size", x::size, 13);
    }

    private static void books(String what, int number, int... due) {
        BranchCourier x = Due.everyState();
        for (int book = 0; book < due.length; book++) {
            Due.is("book(" + book + ", " + number + "), " + what, x.book(book, number), due[book]);
        }
    }

    private static void book() {
        Due.sentence(6, "0 its state");
        books("state", 0, 3, 2, 2, 1, 4, 0);
        Due.sentence(6, "1 its place (the branch, or the van in the state 1; NONE in the states 3 and 4)");
        books("place", 1, NONE, 1, 1, 0, NONE, 2);
        BranchCourier second = Due.loaded("branches 3;van 1 0 1;van 1 1 2;book 2;ask 0 1 1;");
        second.run(1);
        Due.is("book(0, 1) in van 1 at 2", second.book(0, 1), 1);
        Due.sentence(6, "2 its home");
        books("home", 2, 1, 0, 1, 0, 3, 2);
        Due.sentence(6, "3 its goal (NONE without one)");
        books("goal", 3, 1, 1, 1, 0, 1, NONE);
        Due.sentence(6, "4 the requests for it");
        books("requests", 4, 0, 1, 2, 3, 1, 0);
        Due.is("book(0, 4) of 40", Due.loaded(Due.fortyRequests()).book(0, 4), 40);
        Due.sentence(6, "5 1 if it is recalled, otherwise 0");
        books("recalled", 5, 0, 0, 0, 1, 0, 0);
        Due.sentence(6, "6 the reader for whom it is held, or who has it (NONE otherwise)");
        books("reader", 6, 4, 4, 5, NONE, NONE, NONE);
        BranchCourier zero = Due.loaded("branches 2;van 1 0 1;book 0;ask 0 0 0;");
        Due.is("book(0, 6) on a shelf", zero.book(0, 6), NONE);
        zero.run(1);
        Due.is("book(0, 6) held for reader 0", zero.book(0, 6), 0);
        zero.take(0, 0);
        Due.is("book(0, 6) with reader 0", zero.book(0, 6), 0);
        zero.giveBack(0, 1);
        Due.is("book(0, 6) given back", zero.book(0, 6), NONE);
        Due.sentence(6, "7 its limit (NONE if it is not held)");
        books("limit", 7, NONE, 11, 10, NONE, NONE, NONE);
        bookLegs();
        Due.sentence(6, "Throws NoSuchElementException if there is no such book or what is out of range");
        BranchCourier x = Due.everyState();
        Due.counted("book", book -> x.book(book, 0), 6);
        Due.counted("what of book", what -> x.book(0, what), 9);
        Due.missing("book(0, 0) of a new object", () -> new BranchCourier().book(0, 0));
    }

    private static void bookLegs() {
        Due.sentence(6, "8 the legs from where it stands (on a shelf or held) to its goal"
            + " (NONE if there are none, or it stands nowhere)");
        books("legs", 8, NONE, 0, 0, NONE, NONE, NONE);
        BranchCourier x = Due.loaded("branches 5;van 1 0 1;van 1 1 2;book 0;book 0;book 0;book 0;ask 0 1 2;ask 1 1 1;"
            + "ask 3 1 3;");
        Due.is("book(0, 8) two legs away", x.book(0, 8), 2);
        Due.is("book(1, 8) one leg away", x.book(1, 8), 1);
        Due.is("book(2, 8) at its goal", x.book(2, 8), 0);
        Due.is("book(3, 8) without a way", x.book(3, 8), NONE);
        x.close(0);
        Due.is("book(0, 8) at a closed branch", x.book(0, 8), NONE);
        // Held at 1 for its second request, while the branch of the first one opens.
        BranchCourier held = Due.loaded("branches 3;van 1 0 1 2;book 1;ask 0 1 2;ask 0 2 1;");
        held.close(2);
        held.run(1);
        Due.is("book(0, 8) held at its goal", held.book(0, 8), 0);
        held.open(2);
        Due.is("book(0, 8) held elsewhere", held.book(0, 8), 1);
    }

    private static void van() {
        Due.sentence(7, "what 0 its room, 1 the stops of its route");
        BranchCourier x = Due.loaded("branches 4;van 9 0 1 0 1 0 1 0 2;van 1 3 2;book 3;book 3;ask 0 1 2;ask 1 1 2;");
        Due.is("van(0, 0)", x.van(0, 0), 9);
        Due.is("van(1, 0)", x.van(1, 0), 1);
        Due.is("van(0, 1)", x.van(0, 1), 8);
        Due.is("van(1, 1)", x.van(1, 1), 2);
        Due.sentence(7, "2 the stop at which it stands, 3 the branch there");
        int[] route = {0, 1, 0, 1, 0, 1, 0, 2};
        for (int time = 0; time <= 16; time++) {
            Due.is("van(0, 2) at " + time, x.van(0, 2), time % 8);
            Due.is("van(0, 3) at " + time, x.van(0, 3), route[time % 8]);
            Due.is("van(1, 3) at " + time, x.van(1, 3), time % 2 == 0 ? 3 : 2);
            x.run(1);
        }
        Due.sentence(7, "4 the books in it");
        BranchCourier y = Due.loaded("branches 4;van 9 0 1;van 1 2 3;book 3;book 3;ask 0 1 2;ask 1 1 2;");
        Due.is("van(1, 4) at first", y.van(1, 4), 0);
        y.run(1);
        Due.is("van(1, 4) with a book", y.van(1, 4), 1);
        Due.is("van(0, 4)", y.van(0, 4), 0);
        y.run(1);
        Due.is("van(1, 4) unloaded", y.van(1, 4), 0);
        Due.sentence(7, "5 the different branches of its route that are open");
        Due.is("van(0, 5)", x.van(0, 5), 3);
        Due.is("van(1, 5)", x.van(1, 5), 2);
        x.close(0);
        Due.is("van(0, 5) with 0 closed", x.van(0, 5), 2);
        Due.is("van(1, 5) with 0 closed", x.van(1, 5), 2);
        x.close(2);
        x.close(1);
        x.close(3);
        Due.is("van(0, 5) with all closed", x.van(0, 5), 0);
        Due.sentence(7, "Throws NoSuchElementException if there is no such van or what is out of range");
        Due.counted("van", van -> x.van(van, 0), 2);
        Due.counted("what of van", what -> x.van(0, what), 6);
    }

    private static void stop() {
        Due.sentence(8, "Returns the branch of a stop of a van.");
        BranchCourier x = Due.loaded("branches 6;van 9 5 1 0 2 5 4 3 2;van 1 3 2;van 1 4 5;");
        int[] due = {5, 1, 0, 2, 5, 4, 3, 2};
        for (int stop = 0; stop < due.length; stop++) {
            Due.is("stop(0, " + stop + ")", x.stop(0, stop), due[stop]);
        }
        Due.is("stop(1, 0)", x.stop(1, 0), 3);
        Due.is("stop(1, 1)", x.stop(1, 1), 2);
        Due.is("stop(2, 1)", x.stop(2, 1), 5);
        Due.sentence(8, "Throws NoSuchElementException if there is no such van or stop");
        Due.counted("stop of a van", van -> x.stop(van, 0), 3);
        Due.counted("stop of 8", stop -> x.stop(0, stop), 8);
        Due.counted("stop of 2", stop -> x.stop(1, stop), 2);
    }

    private static void inVan() {
        Due.sentence(9, "Returns the i-th book (from 0) in a van, by their numbers.");
        BranchCourier x = Due.loaded("branches 3;van 3 1 0;van 9 1 2;book 2;book 0;book 2;book 0;book 0;book 0;"
            + "ask 0 1 1;ask 1 1 1;ask 2 1 1;ask 3 1 1;ask 5 1 1;");
        Due.missing("inVan(0, 0) of an empty van", () -> x.inVan(0, 0));
        x.run(1);
        Due.is("inVan(0, 0)", x.inVan(0, 0), 1);
        Due.is("inVan(0, 1)", x.inVan(0, 1), 3);
        Due.is("inVan(0, 2)", x.inVan(0, 2), 5);
        Due.is("inVan(1, 0)", x.inVan(1, 0), 0);
        Due.is("inVan(1, 1)", x.inVan(1, 1), 2);
        Due.sentence(9, "Throws NoSuchElementException if there is no such van, or it has not so many");
        Due.counted("inVan(0, ..) of 3", i -> x.inVan(0, i), 3);
        Due.counted("inVan(1, ..) of 2", i -> x.inVan(1, i), 2);
        Due.counted("inVan of a van", van -> x.inVan(van, 0), 2);
        x.lose(0);
        Due.missing("inVan(0, 0) behind lose", () -> x.inVan(0, 0));
    }

    private static void branches(String what, int number, int... due) {
        BranchCourier x = Due.everyState();
        x.giveBack(0, 3);
        for (int branch = 0; branch < due.length; branch++) {
            Due.is("branch(" + branch + ", " + number + "), " + what, x.branch(branch, number), due[branch]);
        }
    }

    private static void branch() {
        Due.sentence(10, "what 0 1 if it is open, otherwise 0");
        branches("open", 0, 1, 1, 0, 1);
        Due.sentence(10, "1 the books on its shelf, 2 the books that are held there");
        branches("on its shelf", 1, 0, 0, 1, 1);
        branches("held", 2, 0, 2, 0, 0);
        BranchCourier both = Due.everyState();
        both.giveBack(0, 1);
        Due.is("branch(1, 1) with books on the shelf and held", both.branch(1, 1), 1);
        Due.is("branch(1, 2) with books on the shelf and held", both.branch(1, 2), 2);
        Due.sentence(10, "3 the requests with it as their branch");
        branches("requests", 3, 0, 4, 1, 2);
        Due.sentence(10, "4 the books whose home it is");
        branches("homes", 4, 2, 2, 1, 1);
        Due.is("branch(0, 4) of 20", Due.loaded("branches 2;van 1 0 1;" + "book 0;".repeat(20)).branch(0, 4), 20);
        Due.sentence(10, "5 the vans that have a stop there");
        branches("vans", 5, 1, 2, 0, 1);
        BranchCourier twice = Due.loaded("branches 3;van 1 0 1 0 2;van 1 2 1;van 1 1 2;");
        Due.is("branch(0, 5) with two stops of a van", twice.branch(0, 5), 1);
        Due.is("branch(1, 5)", twice.branch(1, 5), 3);
        Due.sentence(10, "Throws NoSuchElementException if there is no such branch or what is out of range");
        Due.counted("branch", branch -> twice.branch(branch, 0), 3);
        Due.counted("what of branch", what -> twice.branch(0, what), 6);
    }

    private static void request() {
        Due.sentence(11, "Returns a number of the i-th request (from 0) for a book: what 0 the reader, 1 the branch");
        BranchCourier x = Due.everyState();
        int[][] due = {{4, 3}, {7, 3}, {8, 1}};
        for (int i = 0; i < due.length; i++) {
            Due.is("request(3, " + i + ", 0)", x.request(3, i, 0), due[i][0]);
            Due.is("request(3, " + i + ", 1)", x.request(3, i, 1), due[i][1]);
        }
        Due.is("request(2, 1, 1)", x.request(2, 1, 1), 2);
        BranchCourier forty = Due.loaded(Due.fortyRequests());
        Due.is("request(0, 39, 0)", forty.request(0, 39, 0), 39);
        Due.sentence(11, "2 1 if the book is held for it, otherwise 0");
        Due.is("request(1, 0, 2)", x.request(1, 0, 2), 1);
        Due.is("request(2, 0, 2)", x.request(2, 0, 2), 1);
        Due.is("request(2, 1, 2) of the next reader", x.request(2, 1, 2), 0);
        Due.is("request(3, 0, 2) of a book in a van", x.request(3, 0, 2), 0);
        x.ask(0, 9, 1);
        Due.is("request(0, 0, 2) of a book with another reader", x.request(0, 0, 2), 0);
        Due.sentence(11, "Throws NoSuchElementException if there is no such book or request or what is out of range");
        Due.counted("request for a book", book -> forty.request(book, 0, 0), 1);
        Due.counted("the i-th of 3", i -> x.request(3, i, 0), 3);
        Due.counted("the i-th of 40", i -> forty.request(0, i, 0), 40);
        Due.counted("what of request", what -> x.request(3, 0, what), 3);
        Due.missing("request(5, 0, 0) of a book without requests", () -> x.request(5, 0, 0));
    }

    private static void placeOf() {
        Due.sentence(12, "the place (from 0) of the request of a reader among the requests for a book");
        BranchCourier x = Due.everyState();
        Due.is("placeOf(3, 4)", x.placeOf(3, 4), 0);
        Due.is("placeOf(3, 8)", x.placeOf(3, 8), 2);
        Due.is("placeOf(1, 4)", x.placeOf(1, 4), 0);
        Due.is("placeOf(0, 39)", Due.loaded(Due.fortyRequests()).placeOf(0, 39), 39);
        Due.sentence(12, "NONE if there is none");
        Due.is("placeOf(0, 4) of the reader who has it", x.placeOf(0, 4), NONE);
        Due.is("placeOf(5, 4)", x.placeOf(5, 4), NONE);
        Due.is("placeOf(1, 39) with 40 requests", Due.loaded(Due.fortyRequests()).placeOf(1, 39), NONE);
        BranchCourier gone = Due.everyState();
        gone.cancel(3, 8);
        Due.is("placeOf(3, 8) of the request that came last, and has gone", gone.placeOf(3, 8), NONE);
        Due.is("requestsOf(8)", gone.requestsOf(8), 0);
        for (int reader : new int[] {-1, 100, Integer.MIN_VALUE, Integer.MAX_VALUE}) {
            Due.is("placeOf(3, " + reader + ")", x.placeOf(3, reader), NONE);
        }
        Due.sentence(12, "Throws NoSuchElementException if there is no such book");
        Due.counted("placeOf", book -> x.placeOf(book, 4), 6);
    }

    private static void requestsOf() {
        Due.sentence(13, "Returns how many requests a reader has.");
        BranchCourier x = Due.everyState();
        Due.is("requestsOf(4)", x.requestsOf(4), 3);
        Due.is("requestsOf(8)", x.requestsOf(8), 1);
        Due.is("requestsOf(9)", x.requestsOf(9), 0);
        for (int reader : new int[] {-1, 0, 100, Integer.MIN_VALUE, Integer.MAX_VALUE}) {
            Due.is("requestsOf(" + reader + ")", x.requestsOf(reader), 0);
        }
        BranchCourier ends = Due.loaded("branches 2;van 1 0 1;book 0;book 0;ask 0 0 1;ask 1 0 1;ask 1 99 1;");
        Due.is("requestsOf(0)", ends.requestsOf(0), 2);
        Due.is("requestsOf(99)", ends.requestsOf(99), 1);
    }

    private static void legs() {
        Due.sentence(14, "Returns the legs from a branch to another one; NONE if there are none.");
        BranchCourier x = Due.loaded("branches 6;van 1 0 1;van 1 1 2;van 1 2 3;van 1 3 4;");
        int[] due = {0, 1, 2, 3, 4, NONE};
        for (int to = 0; to < due.length; to++) {
            Due.is("legs(0, " + to + ")", x.legs(0, to), due[to]);
        }
        x.close(4);
        Due.is("legs(0, 4) to a closed branch", x.legs(0, 4), NONE);
        Due.is("legs(4, 4) of a closed branch", x.legs(4, 4), NONE);
        Due.sentence(14, "Throws NoSuchElementException if there is no such branch");
        Due.counted("legs from", from -> x.legs(from, 0), 6);
        Due.counted("legs to", to -> x.legs(0, to), 6);
    }

    private static void wouldLoad() {
        Due.sentence(15, "whether a book on a shelf would come into a van that came to this branch and had room");
        BranchCourier x = Due.loaded("branches 4;van 1 1 0 2;van 1 2 0;book 0;book 0;book 0;ask 0 1 1;ask 1 1 1;");
        Due.is("into a van elsewhere", x.wouldLoad(0, 0), true);
        Due.is("into a van that brings it no nearer", x.wouldLoad(0, 1), false);
        Due.is("at its goal", x.wouldLoad(2, 0), false);
        x.ask(2, 1, 3);
        Due.is("without a way to its goal", x.wouldLoad(2, 0), false);
        x.run(1);
        Due.is("into a van that is full", x.wouldLoad(1, 0), true);
        Due.is("the books in the full van", x.van(0, 4), 1);
        Due.sentence(15, "false if it is on no shelf");
        Due.is("in this van", x.wouldLoad(0, 0), false);
        BranchCourier held = Due.loaded("branches 3;van 1 0 1 2;book 1;ask 0 1 2;ask 0 2 1;");
        held.close(2);
        held.run(1);
        held.open(2);
        Due.is("held, with its goal elsewhere", held.wouldLoad(0, 0), false);
        held.take(0, 2);
        Due.is("with a reader", held.wouldLoad(0, 0), false);
        held.giveBack(0, 1);
        Due.is("given back", held.wouldLoad(0, 0), true);
        held.run(1);
        Due.is("at 2", Due.format(held, 0), "0@1 1:2");
        held.run(2);
        Due.is("in a van", Due.format(held, 0), "0>0 1:2");
        held.lose(0);
        Due.is("lost", held.wouldLoad(0, 0), false);
        held.find(0, 0);
        Due.is("found", held.wouldLoad(0, 0), true);
        Due.sentence(15, "the van has no stop there, or the branch is closed");
        BranchCourier y = Due.loaded("branches 4;van 1 0 1;van 1 1 2;book 0;ask 0 1 2;");
        Due.is("a van with a stop there", y.wouldLoad(0, 0), true);
        Due.is("a van without a stop there", y.wouldLoad(0, 1), false);
        y.close(0);
        Due.is("at a closed branch", y.wouldLoad(0, 0), false);
        Due.sentence(15, "Throws NoSuchElementException if there is no such book or van");
        Due.counted("wouldLoad of a book", book -> y.wouldLoad(book, 0), 1);
        Due.counted("wouldLoad into a van", van -> y.wouldLoad(0, van), 2);
    }

    private static void comesIn() {
        Due.sentence(16, "in how many ticks a van stands at a branch for the first time (at least 1; open or not)");
        BranchCourier x = Due.loaded("branches 4;van 1 0 1 0 2;van 1 3 2;van 1 0 1 0 1 0 1 0 3;");
        Due.is("where it stands, the whole round on", x.comesIn(1, 3), 2);
        Due.is("where it stands, and comes again earlier", x.comesIn(0, 0), 2);
        Due.is("at the next stop", x.comesIn(0, 1), 1);
        Due.is("at the last stop", x.comesIn(0, 2), 3);
        Due.is("at the last of eight stops", x.comesIn(2, 3), 7);
        x.run(7);
        Due.is("where it stands, eight ticks on", x.comesIn(2, 3), 8);
        Due.is("behind the last stop", x.comesIn(0, 0), 1);
        x.close(3);
        Due.is("at a closed branch", x.comesIn(2, 3), 8);
        Due.sentence(16, "NONE if it has no stop there");
        Due.is("comesIn(0, 3)", x.comesIn(0, 3), NONE);
        Due.is("comesIn(1, 0)", x.comesIn(1, 0), NONE);
        Due.sentence(16, "Throws NoSuchElementException if there is no such van or branch");
        Due.counted("comesIn of a van", van -> x.comesIn(van, 2), 3);
        Due.counted("comesIn at a branch", branch -> x.comesIn(0, branch), 4);
    }

    private static void meetIn() {
        Due.sentence(17, "in how many ticks two vans stand at the same branch for the first time (at least 1)");
        BranchCourier x = Due.loaded("branches 6;van 1 0 1 0 1 0 1 5;van 1 2 3 2 3 2 3 2 5;van 1 5 4;van 1 4 5;");
        Due.is("nearly a whole circle of both", x.meetIn(0, 1), 55);
        Due.is("the other way round", x.meetIn(1, 0), 55);
        x.run(54);
        Due.is("in the next tick", x.meetIn(0, 1), 1);
        x.run(1);
        Due.is("where both stand, a whole circle on", x.meetIn(0, 1), 56);
        x.close(5);
        Due.is("at a closed branch", x.meetIn(0, 1), 56);
        BranchCourier same = Due.loaded("branches 3;van 1 0 1;van 1 0 2;");
        Due.is("where both stand, two ticks on", same.meetIn(0, 1), 2);
        Due.sentence(17, "NONE if never");
        Due.is("of vans that pass by", x.meetIn(2, 3), NONE);
        Due.is("of vans without a common branch", Due.loaded("branches 4;van 1 0 1;van 1 2 3;").meetIn(0, 1), NONE);
        Due.sentence(17, "Throws NoSuchElementException if there is no such van, or both are the same");
        Due.missing("meetIn(0, 0)", () -> x.meetIn(0, 0));
        Due.missing("meetIn(3, 3)", () -> x.meetIn(3, 3));
        Due.missing("meetIn(4, 4)", () -> x.meetIn(4, 4));
        for (int wrong : new int[] {-1, 4, 32, Integer.MIN_VALUE, Integer.MAX_VALUE}) {
            Due.missing("meetIn(" + wrong + ", 1)", () -> x.meetIn(wrong, 1));
            Due.missing("meetIn(1, " + wrong + ")", () -> x.meetIn(1, wrong));
        }
        Due.is("meetIn(3, 0) of the last van", x.meetIn(3, 0) > 0, true);
    }

    /** A van with room for one book: the book 12 comes to 1 behind twelve others that go there twice. */
    private static String rounds(String route) {
        StringBuilder text = new StringBuilder("branches 3;van 1 " + route + ";" + "book 0;".repeat(13) + "hold 1;");
        for (int book = 0; book < 12; book++) {
            for (int reader = 0; reader < 3; reader++) {
                text.append("ask ").append(book).append(" ").append(reader).append(reader == 1 ? " 0;" : " 1;");
            }
        }
        return text.append("ask 12 0 1;").toString();
    }

    private static void arrivesIn() {
        Due.sentence(18, "in how many ticks (0 to 200; 0 if it is so now)");
        BranchCourier x = Due.loaded("branches 2;van 1 1 0;book 0;book 0;book 0;ask 0 1 1;ask 2 1 0;");
        Due.is("on the shelf of its goal", x.arrivesIn(1), 0);
        Due.is("on the shelf of its goal, not yet held", x.arrivesIn(2), 0);
        Due.is("in two ticks", x.arrivesIn(0), 2);
        x.run(1);
        Due.is("in a van, in one tick", x.arrivesIn(0), 1);
        Due.is("in 200 ticks", Due.loaded(rounds("1 2 1 2 1 2 1 0")).arrivesIn(12), 200);
        BranchCourier late = Due.loaded(rounds("0 1 2 1 2 1 2 1"));
        Due.is("in 201 ticks", late.arrivesIn(12), NONE);
        late.run(1);
        Due.is("in 200 of 201 ticks", late.arrivesIn(12), 200);
        Due.sentence(18, "a book is first on the shelf of its goal (of then) or held");
        x.run(1);
        Due.is("held", x.arrivesIn(0), 0);
        Due.is("held at its goal", x.arrivesIn(2), 0);
        // Held at 1, while its goal is 2: it has arrived, too.
        BranchCourier held = Due.loaded("branches 3;van 1 0 1;book 1;ask 0 1 2;ask 0 2 1;");
        held.close(2);
        held.run(1);
        held.open(2);
        Due.is("held elsewhere", held.arrivesIn(0), 0);
        // The recalled book is at its home 0 in 3 ticks, but then it is no longer recalled, and its goal is 1 again.
        BranchCourier recalled = Due.loaded("branches 2;van 1 1 0;book 0;ask 0 1 1;");
        recalled.run(2);
        recalled.recall(0);
        Due.is("recalled, of its goal of then", recalled.arrivesIn(0), 6);
        Due.is("its place in 2 ticks", recalled.bookIn(0, 0, 2), 1);
        recalled.cancel(0, 1);
        Due.is("recalled, without requests", recalled.arrivesIn(0), 3);
        Due.sentence(18, "NONE if not");
        Due.is("with a reader", Due.everyState().arrivesIn(0), NONE);
        Due.is("lost", Due.everyState().arrivesIn(4), NONE);
        Due.is("without a goal", Due.everyState().arrivesIn(5), NONE);
        BranchCourier apart = Due.loaded("branches 3;van 1 0 1;book 0;ask 0 1 2;");
        Due.is("without a way", apart.arrivesIn(0), NONE);
        Due.sentence(18, "Throws NoSuchElementException if there is no such book");
        Due.counted("arrivesIn", x::arrivesIn, 3);
    }

    private static void heldIn() {
        Due.sentence(19, "in how many ticks (0 to 200) a book is first held for a reader");
        String asks = "book 0;hold 32;ask 0 0 1;ask 0 1 1;ask 0 2 1;ask 0 3 1;ask 0 4 1;ask 0 5 1;ask 0 6 1;ask 0 7 1;";
        BranchCourier y = Due.loaded("branches 2;van 1 1 0;" + asks);
        Due.is("heldIn(0, 0)", y.heldIn(0, 0), 2);
        Due.is("heldIn(0, 1) behind the limit of another", y.heldIn(0, 1), 35);
        Due.is("heldIn(0, 6) in 200 ticks", y.heldIn(0, 6), 200);
        Due.is("heldIn(0, 7) in 233 ticks", y.heldIn(0, 7), NONE);
        y.run(2);
        Due.is("heldIn(0, 0) now", y.heldIn(0, 0), 0);
        BranchCourier z = Due.loaded("branches 2;van 1 0 1;" + asks);
        Due.is("heldIn(0, 5) in 168 ticks", z.heldIn(0, 5), 168);
        Due.is("heldIn(0, 6) in 201 ticks", z.heldIn(0, 6), NONE);
        z.run(1);
        Due.is("heldIn(0, 6) in 200 of 201 ticks", z.heldIn(0, 6), 200);
        Due.sentence(19, "NONE if not");
        BranchCourier x = Due.everyState();
        Due.is("heldIn(0, 4) of the reader who has it", x.heldIn(0, 4), NONE);
        Due.is("heldIn(1, 5) without a request", x.heldIn(1, 5), NONE);
        Due.is("heldIn(4, 4) of a lost book", x.heldIn(4, 4), NONE);
        for (int reader : new int[] {-1, 100, Integer.MIN_VALUE, Integer.MAX_VALUE}) {
            Due.is("heldIn(5, " + reader + ")", x.heldIn(5, reader), NONE);
        }
        Due.sentence(19, "Throws NoSuchElementException if there is no such book");
        Due.counted("heldIn", book -> x.heldIn(book, 4), 6);
    }

    private static void bookIn() {
        Due.sentence(20, "ticks: 0 to 200");
        BranchCourier x = Due.everyState();
        for (int what = 0; what < 9; what++) {
            Due.is("bookIn(3, " + what + ", 0)", x.bookIn(3, what, 0), x.book(3, what));
        }
        BranchCourier y = Due.loaded(rounds("1 2 1 2 1 2 1 0"));
        Due.is("bookIn(12, 0, 199)", y.bookIn(12, 0, 199), 1);
        Due.is("bookIn(12, 0, 200)", y.bookIn(12, 0, 200), 2);
        Due.is("bookIn(12, 7, 200)", y.bookIn(12, 7, 200), 201);
        Due.sentence(20, "a number of a book, as book tells it, behind so many ticks");
        Due.is("bookIn(2, 7, 6) at its limit", x.bookIn(2, 7, 6), 10);
        Due.is("bookIn(2, 7, 7) behind its limit", x.bookIn(2, 7, 7), NONE);
        Due.is("bookIn(2, 4, 7) behind its limit", x.bookIn(2, 4, 7), 1);
        Due.is("bookIn(3, 5, 1)", x.bookIn(3, 5, 1), 0);
        Due.is("bookIn(0, 6, 200)", x.bookIn(0, 6, 200), 4);
        Due.is("bookIn(4, 1, 200)", x.bookIn(4, 1, 200), NONE);
        Due.sentence(20, "Throws NoSuchElementException if there is no such book or what is out of range"
            + " (checked first)");
        Due.counted("bookIn of a book", book -> x.bookIn(book, 0, 1), 6);
        Due.counted("bookIn of what", what -> x.bookIn(0, what, 1), 9);
        Due.missing("bookIn(6, 0, 201)", () -> x.bookIn(6, 0, 201));
        Due.missing("bookIn(0, 9, -1)", () -> x.bookIn(0, 9, -1));
        Due.sentence(20, "Throws IllegalArgumentException if ticks is out of range");
        for (int ticks : new int[] {-1, 201, Integer.MIN_VALUE, Integer.MAX_VALUE}) {
            Due.illegal("bookIn(0, 0, " + ticks + ")", () -> x.bookIn(0, 0, ticks));
        }
    }

    /** In the tick 1 van 1 takes one book, van 2 two and van 3 two. */
    private static BranchCourier fullVans() {
        BranchCourier x = Due.loaded("branches 6;van 9 0 1;van 1 1 2;van 2 1 3;van 3 0 4;book 2;book 2;book 3;book 3;"
            + "book 3;book 4;book 4;ask 0 1 1;ask 2 1 1;ask 3 1 1;ask 4 1 1;ask 5 1 0;ask 6 1 0;");
        x.run(1);
        return x;
    }

    private static void fullest() {
        Due.sentence(21, "Returns the van with the most books in it, of several the smallest.");
        Due.is("of a new object", new BranchCourier().fullest(), 0);
        BranchCourier x = fullVans();
        Due.is("of two alike", x.fullest(), 2);
        x.lose(2);
        Due.is("the last van", x.fullest(), 3);
        x.lose(3);
        Due.is("with one book", x.fullest(), 1);
        x.lose(1);
        Due.is("without books in vans", x.fullest(), 0);
    }

    private static void mostWanted() {
        Due.sentence(22, "Returns the book with the most requests, of several the smallest");
        BranchCourier x = Due.loaded("branches 2;van 1 0 1;" + "book 0;".repeat(20));
        x.ask(19, 1, 1);
        Due.is("the last book", x.mostWanted(), 19);
        x.ask(0, 1, 1);
        Due.is("of two alike", x.mostWanted(), 0);
        x.ask(7, 1, 1);
        x.ask(7, 2, 1);
        Due.is("of the most", x.mostWanted(), 7);
        Due.sentence(22, "NONE if there are no requests");
        x.cancel(19, 1);
        x.cancel(0, 1);
        x.cancel(7, 1);
        Due.is("with one request", x.mostWanted(), 7);
        x.cancel(7, 2);
        Due.is("without requests", x.mostWanted(), NONE);
        Due.is("without books", new BranchCourier().mostWanted(), NONE);
    }

    private static void stranded() {
        Due.sentence(23, "have a goal other than the branch at which they stand, but no legs to it, or no goal");
        Due.is("without books", new BranchCourier().stranded(), 0);
        BranchCourier x = Due.loaded("branches 4;van 1 0 1;van 1 1 2;book 0;book 0;ask 1 1 2;");
        Due.is("at its goal, and with a way", x.stranded(), 0);
        x.ask(0, 1, 3);
        Due.is("without a way", x.stranded(), 1);
        x.close(1);
        Due.is("both without a way", x.stranded(), 2);
        x.close(2);
        // Book 1 has its home 0 as its goal again.
        Due.is("one at its goal", x.stranded(), 1);
        x.close(3);
        Due.is("both at their goal", x.stranded(), 0);
        x.close(0);
        Due.is("both without a goal", x.stranded(), 2);
        x.open(2);
        Due.is("one at a closed branch, with a goal", x.stranded(), 2);
        Due.sentence(23, "Returns how many books on shelves");
        // All other states, with no branch open but 1, where two are held.
        BranchCourier y = Due.everyState();
        y.close(0);
        y.close(3);
        Due.is("in other states", y.stranded(), 1);
        // Held at 1, with its goal 2, to which there is no way.
        BranchCourier held = Due.loaded("branches 3;van 1 0 1;book 1;ask 0 1 2;ask 0 2 1;");
        held.close(2);
        held.run(1);
        held.open(2);
        Due.is("held, without a way", held.stranded(), 0);
        held.take(0, 2);
        Due.is("with a reader, without a way", held.stranded(), 0);
        held.giveBack(0, 1);
        Due.is("on a shelf, without a way", held.stranded(), 1);
        BranchCourier van = Due.loaded("branches 3;van 1 1 0;van 1 1 2;book 0;ask 0 1 2;");
        van.run(1);
        van.close(1);
        Due.is("in a van, without a way", van.stranded(), 0);
        van.lose(0);
        Due.is("lost, without a way", van.stranded(), 0);
        van.find(0, 0);
        Due.is("found, without a way", van.stranded(), 1);
    }

    private static void hub() {
        Due.sentence(24, "make the most ordered pairs of two other open branches lose their legs");
        BranchCourier x = Due.loaded("branches 6;van 1 0 1;van 1 1 2;van 1 2 3;van 1 3 4;");
        Due.is("in the middle of a chain", x.hub(), 2);
        BranchCourier y = Due.loaded("branches 5;van 1 0 4;van 1 1 4;van 1 2 4;van 1 3 4;");
        Due.is("the last branch, in the middle of a star", y.hub(), 4);
        // Pairs of a closed branch, and pairs of the closing one itself, are none that lose their legs.
        y.close(3);
        y.close(2);
        Due.is("of 0 and 1", y.hub(), 4);
        y.close(1);
        Due.is("of a pair of two", y.hub(), 0);
        // 1 cuts off 0, 2 cuts off 4, each from four others; and 5 in the place of 0.
        Due.is("pairs of the first branch", Due.loaded("branches 6;van 1 0 1;van 1 1 2 3 5;van 1 2 4;").hub(), 1);
        Due.is("pairs of the last branch", Due.loaded("branches 6;van 1 5 1;van 1 1 2 3 0;van 1 2 4;").hub(), 1);
        // Closing 1 or 2 ends the legs between these two alone; 0 has none to lose.
        Due.is("pairs of the branch itself", Due.loaded("branches 3;van 1 1 2;").hub(), 0);
        Due.sentence(24, "of several the smallest");
        BranchCourier alike = Due.loaded("branches 6;van 1 2 3;van 1 3 4;van 1 4 5;");
        Due.is("of 3 and 4", alike.hub(), 3);
        Due.is("where none loses its legs", Due.loaded("branches 3;van 1 0 1 2;").hub(), 0);
        BranchCourier closed = Due.loaded("branches 3;van 1 0 1 2;");
        closed.close(0);
        Due.is("the smallest open one", closed.hub(), 1);
        closed.close(1);
        Due.is("one open branch", closed.hub(), 2);
        Due.sentence(24, "NONE if none is open (pairs that have legs now, and would have none then)");
        closed.close(2);
        Due.is("no open branch", closed.hub(), NONE);
        // 2 links only pairs that have another way: none is lost; 1 cuts off 0.
        BranchCourier other = Due.loaded("branches 5;van 1 0 1;van 1 1 2 3;van 1 3 2 4;van 1 1 4;");
        Due.is("pairs with another way", other.hub(), 1);
    }

    private static void loaded() {
        Due.sentence(25, "the books in vans divided by the room of all vans, as doubles"
            + " (both converted, then divided)");
        Due.isExactly("of a new object", new BranchCourier().loaded(), 0.0);
        BranchCourier x = fullVans();
        Due.isExactly("5 of 15", x.loaded(), 5.0 / 15.0);
        x.lose(2);
        Due.isExactly("3 of 15", x.loaded(), 3.0 / 15.0);
        BranchCourier one = Due.loaded("branches 2;van 1 1 0;van 6 0 1;book 0;ask 0 1 1;");
        one.run(1);
        Due.isExactly("1 of 7, no float", one.loaded(), 1.0 / 7.0);
        BranchCourier all = Due.loaded("branches 2;van 1 1 0;book 0;ask 0 1 1;");
        all.run(1);
        Due.isExactly("1 of 1", all.loaded(), 1.0);
    }

    private static void lostShare() {
        Due.sentence(26, "the lost books divided by all books, as floats (both converted, then divided)");
        BranchCourier x = fullVans();
        Due.isExactly("0 of 7", x.lostShare(), 0.0f);
        x.lose(1);
        Due.isExactly("1 of 7, as a float", x.lostShare(), 1.0f / 7.0f);
        x.lose(2);
        Due.isExactly("3 of 7", x.lostShare(), 3.0f / 7.0f);
        BranchCourier all = Due.loaded("branches 2;van 1 1 0;book 0;ask 0 1 1;");
        all.run(1);
        all.lose(0);
        Due.isExactly("1 of 1", all.lostShare(), 1.0f);
        Due.sentence(26, "0 without books");
        Due.isExactly("of a new object", new BranchCourier().lostShare(), 0.0f);
    }
}
