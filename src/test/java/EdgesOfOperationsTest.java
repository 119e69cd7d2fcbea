/** The sentences of 'Operations' and of promises 27 to 37 that name edges, each with checks of its own. */
public final class EdgesOfOperationsTest {
    private static final int NONE = BranchCourier.NONE;

    public static void main(String[] args) {
        recorded();
        refusedCalls();
        exceptionsFirst();
        codesInOrder();
        tenOperations();
        whatUndoingLeaves();
        forecasts();
        ask();
        cancel();
        recall();
        take();
        giveBack();
        lose();
        find();
        close();
        open();
        setHold();
        run();
        runToTheEnd();
        Due.end();
    }

    private static void recorded() {
        Due.sentence("Operations", "Every successful call is recorded, even if it changes nothing");
        BranchCourier x = Due.everyState();
        String before = Due.told(x);
        Due.is("lose(1) of an empty van", x.lose(1), 0);
        Due.is("undoCount()", x.undoCount(), 8);
        Due.is("setHold(9) as it is", x.setHold(9), 9);
        Due.is("undoCount()", x.undoCount(), 9);
        Due.is("the library", Due.told(x), before);
        Due.is("undo()", x.undo(), 8);
        Due.is("undo()", x.undo(), 7);
        // Each of the others, also with an answer of 0.
        int count = 7;
        x.ask(0, 9, 1);
        Due.is("undoCount() behind ask", x.undoCount(), ++count);
        x.cancel(0, 9);
        Due.is("undoCount() behind cancel", x.undoCount(), ++count);
        x.recall(0);
        Due.is("undoCount() behind recall", x.undoCount(), ++count);
        BranchCourier y = Due.everyState();
        count = 7;
        Due.is("take", y.take(1, 4), 1);
        Due.is("undoCount() behind take", y.undoCount(), ++count);
        Due.is("giveBack", y.giveBack(1, 3), 4);
        Due.is("undoCount() behind giveBack", y.undoCount(), ++count);
        Due.is("find", y.find(4, 2), 2);
        Due.is("undoCount() behind find", y.undoCount(), ++count);
        BranchCourier z = Due.everyState();
        count = 7;
        Due.is("close(0)", z.close(0), 0);
        Due.is("undoCount() behind close", z.undoCount(), ++count);
        Due.is("open(0)", z.open(0), 0);
        Due.is("undoCount() behind open", z.undoCount(), ++count);
        z.run(1);
        Due.is("undoCount() behind run", z.undoCount(), ++count);
    }

    private static void refusedCalls() {
        Due.sentence("Operations", "a call that returns a negative error code or throws an exception changes nothing");
        Due.refused(Due.everyState(), "ask(1, 4, 0)", x -> x.ask(1, 4, 0), -3);
        Due.refused(Due.loaded(Due.fortyRequests()), "ask(1, 4, 0)", x -> x.ask(1, 4, 0), -2);
        Due.refused(Due.everyState(), "cancel(1, 5)", x -> x.cancel(1, 5), -2);
        Due.refused(Due.everyState(), "recall(3)", x -> x.recall(3), -2);
        Due.refused(Due.everyState(), "recall(5)", x -> x.recall(5), -3);
        Due.refused(Due.everyState(), "take(2, 6)", x -> x.take(2, 6), -2);
        Due.refused(Due.everyState(), "giveBack(1, 0)", x -> x.giveBack(1, 0), -2);
        Due.refused(Due.everyState(), "giveBack(0, 2)", x -> x.giveBack(0, 2), -3);
        Due.refused(Due.everyState(), "find(5, 0)", x -> x.find(5, 0), -2);
        Due.refused(Due.everyState(), "close(2)", x -> x.close(2), -2);
        Due.refused(Due.everyState(), "open(1)", x -> x.open(1), -2);
        Due.refusedAsIllegal(Due.everyState(), "ask(1, 100, 0)", x -> x.ask(1, 100, 0));
        Due.refusedAsIllegal(Due.everyState(), "setHold(0)", x -> x.setHold(0));
        Due.refusedAsIllegal(Due.everyState(), "run(0)", x -> x.run(0));
        Due.refusedAsIllegal(Due.everyState(), "run(100)", x -> x.run(100));
        Due.refusedAsMissing(Due.everyState(), "ask(1, 9, 4)", x -> x.ask(1, 9, 4));
        Due.refusedAsMissing(Due.everyState(), "cancel(6, 4)", x -> x.cancel(6, 4));
        Due.refusedAsMissing(Due.everyState(), "recall(6)", x -> x.recall(6));
        Due.refusedAsMissing(Due.everyState(), "take(6, 4)", x -> x.take(6, 4));
        Due.refusedAsMissing(Due.everyState(), "giveBack(0, 4)", x -> x.giveBack(0, 4));
        Due.refusedAsMissing(Due.everyState(), "lose(2)", x -> x.lose(2));
        Due.refusedAsMissing(Due.everyState(), "find(4, 4)", x -> x.find(4, 4));
        Due.refusedAsMissing(Due.everyState(), "close(4)", x -> x.close(4));
        Due.refusedAsMissing(Due.everyState(), "open(-1)", x -> x.open(-1));
        // What is undone behind a refused call is the operation ahead of it.
        BranchCourier x = Due.everyState();
        x.setHold(44);
        x.take(2, 6);
        x.close(2);
        Due.is("undo()", x.undo(), 7);
        Due.is("size(6)", x.size(6), 9);
    }

    private static void exceptionsFirst() {
        Due.sentence("Operations", "error codes are checked behind the exceptions");
        BranchCourier forty = Due.loaded(Due.fortyRequests());
        Due.illegal("ask of a wrong reader with 40 requests", () -> forty.ask(0, 100, 1));
        Due.missing("ask at a wrong branch with 40 requests", () -> forty.ask(0, 1, 2));
        Due.missing("ask for a wrong book with 40 requests", () -> forty.ask(2, 1, 1));
        BranchCourier x = Due.everyState();
        Due.missing("ask at a wrong branch of a reader who has it", () -> x.ask(0, 4, 4));
        Due.missing("giveBack to a wrong branch of a held book", () -> x.giveBack(1, 4));
        Due.missing("find at a wrong branch of a book in a van", () -> x.find(3, 4));
        BranchCourier last = Due.loaded("branches 2;van 1 0 1;");
        for (int i = 0; i < 101; i++) {
            last.run(99);
        }
        Due.illegal("run(100) at 9999", () -> last.run(100));
        Due.illegal("run(0) at 9999", () -> last.run(0));
        Due.is("run(1) at 9999", last.run(1), -2);
    }

    private static void codesInOrder() {
        Due.sentence("Operations", "in the order in which they are listed");
        BranchCourier forty = Due.loaded(Due.fortyRequests());
        Due.is("ask of a reader who has one, with 40 requests", forty.ask(0, 1, 1), -2);
        BranchCourier x = Due.loaded("branches 2;van 1 1 0;book 0;ask 0 1 1;");
        x.run(1);
        x.recall(0);
        x.lose(0);
        x.find(0, 0);
        Due.is("recall of a recalled book on the shelf of its home", x.recall(0), -2);
        Due.is("giveBack of a held book to a closed branch", Due.everyState().giveBack(1, 2), -2);
    }

    private static void tenOperations() {
        Due.sentence("Operations", "The 10 most recent operations can be undone, the most recent one first.");
        for (int operations = 9; operations <= 12; operations++) {
            BranchCourier x = Due.loaded("branches 2;van 1 0 1;");
            for (int i = 1; i <= operations; i++) {
                x.setHold(20 + i);
            }
            int left = Math.min(operations, 10);
            Due.is("undoCount() of " + operations, x.undoCount(), left);
            for (int hold = 20 + operations - 1; left > 0; hold--) {
                left--;
                Due.is("undo()", x.undo(), left);
                Due.is("size(6)", x.size(6), hold == 20 ? 10 : hold);
            }
            Due.is("undo() of none", x.undo(), NONE);
            Due.is("size(6) behind all", x.size(6), operations <= 10 ? 10 : 20 + operations - 10);
        }
        // An operation behind undoing takes the place of those that were undone.
        BranchCourier y = Due.loaded("branches 2;van 1 0 1;");
        for (int i = 1; i <= 15; i++) {
            y.setHold(20 + i);
        }
        y.undo();
        y.undo();
        y.setHold(50);
        Due.is("undoCount()", y.undoCount(), 9);
        Due.is("undo()", y.undo(), 8);
        Due.is("size(6)", y.size(6), 33);
        Due.is("undo()", y.undo(), 7);
        Due.is("size(6)", y.size(6), 32);
    }

    private static void whatUndoingLeaves() {
        Due.sentence("Operations", "Undoing restores everything that the operation changed, but not the buffer,"
            + " the error position, the text of format and the snapshot.");
        BranchCourier x = Due.everyState();
        String before = Due.told(x);
        x.run(30);
        x.saveSnapshot();
        Due.query(x, "many ;");
        int bytes = x.format(0);
        Due.feed(x, "many book = 1");
        Due.is("undo()", x.undo(), 7);
        Due.is("the library", Due.told(x), before);
        Due.is("the error position", x.errorPosition(), 5);
        Due.is("the text of format", Due.formatted(x, bytes), "0-4");
        Due.is("the buffer", x.query(13), 1);
        Due.is("the snapshot", x.restoreSnapshot(), true);
        Due.is("size(5) of the snapshot", x.size(5), 34);
    }

    private static void forecasts() {
        Due.sentence("Operations", "Forecasts go on as run does, with nothing else happening");
        BranchCourier x = Due.everyState();
        String before = Due.told(x);
        int[] in20 = new int[9];
        for (int what = 0; what < 9; what++) {
            in20[what] = x.bookIn(3, what, 20);
        }
        x.arrivesIn(3);
        x.heldIn(3, 7);
        Due.is("the library behind forecasts", Due.told(x), before);
        Due.is("undoCount()", x.undoCount(), 7);
        x.run(20);
        for (int what = 0; what < 9; what++) {
            Due.is("book(3, " + what + ") behind 20 ticks", x.book(3, what), in20[what]);
        }
        Due.sentence("Operations", "also beyond the time 9999");
        BranchCourier y = Due.loaded("branches 2;van 1 0 1;book 0;hold 50;");
        for (int i = 0; i < 101; i++) {
            y.run(99);
        }
        y.ask(0, 5, 1);
        Due.is("run(1)", y.run(1), -2);
        Due.is("heldIn(0, 5)", y.heldIn(0, 5), 2);
        Due.is("arrivesIn(0)", y.arrivesIn(0), 2);
        Due.is("bookIn(0, 7, 2)", y.bookIn(0, 7, 2), 10051);
        Due.is("bookIn(0, 0, 52)", y.bookIn(0, 0, 52), 2);
        Due.is("bookIn(0, 0, 53)", y.bookIn(0, 0, 53), 0);
        Due.is("bookIn(0, 1, 200)", y.bookIn(0, 1, 200), 0);
        Due.is("size(5)", y.size(5), 9999);
    }

    private static void ask() {
        Due.sentence(27, "the request comes behind all others for it");
        BranchCourier x = Due.everyState();
        Due.is("ask(3, 0, 2)", x.ask(3, 0, 2), 3);
        Due.is("format(3)", Due.format(x, 3), "3>0r 4:3 7:3 8:1 0:2");
        Due.sentence(27, "Returns its place among the requests for this book (from 0)");
        Due.is("ask(5, 9, 0)", x.ask(5, 9, 0), 0);
        Due.is("ask(5, 8, 2) at a closed branch", x.ask(5, 8, 2), 1);
        Due.is("ask(4, 9, 1) for a lost book", x.ask(4, 9, 1), 1);
        Due.is("ask(0, 9, 1) for a book with another reader", x.ask(0, 9, 1), 0);
        Due.sentence(27, "-2 if there are 40 requests");
        BranchCourier forty = Due.loaded(Due.fortyRequests());
        Due.is("size(4)", forty.size(4), 40);
        Due.is("ask(1, 50, 1)", forty.ask(1, 50, 1), -2);
        forty.cancel(0, 0);
        Due.is("ask(1, 50, 1) with 39", forty.ask(1, 50, 1), 0);
        Due.is("ask(1, 51, 1)", forty.ask(1, 51, 1), -2);
        Due.sentence(27, "-3 if the reader has one for this book, or has the book");
        Due.is("ask(3, 8, 2)", x.ask(3, 8, 2), -3);
        Due.is("ask(1, 4, 2) of the reader for whom it is held", x.ask(1, 4, 2), -3);
        Due.is("ask(0, 4, 1) of the reader who has it", x.ask(0, 4, 1), -3);
        Due.is("ask(2, 4, 1) of that reader for another book", x.ask(2, 4, 1), 2);
        x.giveBack(0, 0);
        Due.is("ask(0, 4, 1) of the reader who had it", x.ask(0, 4, 1), 1);
        Due.sentence(27, "reader: 0 to 99");
        BranchCourier y = Due.everyState();
        Due.is("ask(5, 0, 1)", y.ask(5, 0, 1), 0);
        Due.is("ask(5, 99, 1)", y.ask(5, 99, 1), 1);
        Due.sentence(27, "Throws IllegalArgumentException if reader is out of range");
        for (int reader : new int[] {-1, 100, 256, Integer.MIN_VALUE, Integer.MAX_VALUE}) {
            Due.illegal("ask(5, " + reader + ", 1)", () -> y.ask(5, reader, 1));
        }
        Due.sentence(27, "Throws NoSuchElementException if there is no such book or branch (checked first)");
        Due.counted("ask for a book", book -> y.ask(book, 50, 1), 6);
        Due.counted("ask at a branch", branch -> y.ask(5, 60 + branch, branch), 4);
        Due.missing("ask(6, 100, 1)", () -> y.ask(6, 100, 1));
        Due.missing("ask(5, -1, 4)", () -> y.ask(5, -1, 4));
    }

    private static void cancel() {
        Due.sentence(28, "the request of a reader for a book goes");
        BranchCourier x = Due.everyState();
        x.cancel(3, 7);
        Due.is("format(3)", Due.format(x, 3), "3>0r 4:3 8:1");
        Due.is("size(4)", x.size(4), 6);
        Due.sentence(28, "if the book was held for it, it is on the shelf there");
        x.cancel(2, 6);
        Due.is("of another reader", Due.format(x, 2), "2!1 5:1");
        x.cancel(2, 5);
        Due.is("of the reader for whom it was held", Due.format(x, 2), "2@1");
        Due.is("book(2, 6)", x.book(2, 6), NONE);
        Due.is("book(2, 7)", x.book(2, 7), NONE);
        Due.sentence(28, "Returns the place that it had");
        Due.is("cancel(3, 8)", x.cancel(3, 8), 1);
        Due.is("cancel(3, 4)", x.cancel(3, 4), 0);
        Due.is("cancel(1, 4)", x.cancel(1, 4), 0);
        BranchCourier forty = Due.loaded(Due.fortyRequests());
        Due.is("cancel(0, 39)", forty.cancel(0, 39), 39);
        Due.sentence(28, "-2 if there is none");
        Due.is("cancel(3, 8) again", x.cancel(3, 8), -2);
        Due.is("cancel(0, 4) of the reader who has it", x.cancel(0, 4), -2);
        Due.is("cancel(0, -1)", x.cancel(0, -1), -2);
        Due.is("cancel(0, 100)", x.cancel(0, 100), -2);
        Due.is("cancel(1, 39) of a request for another book", forty.cancel(1, 39), -2);
        Due.sentence(28, "Throws NoSuchElementException if there is no such book");
        Due.counted("cancel", book -> x.cancel(book, 4), 6);
    }

    private static void recall() {
        Due.sentence(29, "if it was held, it is on the shelf there, and the request stays");
        BranchCourier x = Due.everyState();
        Due.is("recall(1)", x.recall(1), 2);
        Due.is("format(1)", Due.format(x, 1), "1@1r 4:1");
        Due.is("book(1, 6)", x.book(1, 6), NONE);
        Due.is("book(1, 7)", x.book(1, 7), NONE);
        Due.sentence(29, "Returns its state before");
        Due.is("recall(0) with a reader", x.recall(0), 3);
        Due.is("recall(4) of a lost book", x.recall(4), 4);
        BranchCourier y = Due.everyState();
        y.giveBack(0, 0);
        Due.is("recall(0) on a shelf", y.recall(0), 0);
        BranchCourier van = Due.loaded("branches 2;van 1 1 0;book 0;ask 0 1 1;");
        van.run(1);
        Due.is("recall(0) in a van", van.recall(0), 1);
        Due.is("recall(2) of a book held at its home", y.recall(2), 2);
        Due.sentence(29, "-2 if it is recalled already");
        Due.is("recall(3)", y.recall(3), -2);
        Due.is("recall(4) again", x.recall(4), -2);
        Due.sentence(29, "-3 if it is on the shelf of its home");
        Due.is("recall(5) at its closed home", y.recall(5), -3);
        y.open(2);
        Due.is("recall(5) at its open home", y.recall(5), -3);
        Due.sentence(29, "Throws NoSuchElementException if there is no such book");
        Due.counted("recall", y::recall, 6);
    }

    private static void take() {
        Due.sentence(30, "a reader takes a book that is held for them; the request goes");
        BranchCourier x = Due.everyState();
        x.take(2, 5);
        Due.is("format(2)", Due.format(x, 2), "2-5 6:2");
        Due.is("book(2, 1)", x.book(2, 1), NONE);
        Due.is("book(2, 7)", x.book(2, 7), NONE);
        Due.sentence(30, "Returns the branch");
        Due.is("take(1, 4)", x.take(1, 4), 1);
        BranchCourier zero = Due.loaded("branches 2;van 1 0 1;book 0;ask 0 0 0;");
        zero.run(1);
        Due.is("take(0, 0) of reader 0 at branch 0", zero.take(0, 0), 0);
        Due.sentence(30, "-2 if it is not held for this reader");
        BranchCourier y = Due.everyState();
        Due.is("take(2, 6) of a reader who waits", y.take(2, 6), -2);
        Due.is("take(1, 5) of a reader of another book", y.take(1, 5), -2);
        Due.is("take(0, 4) of the reader who has it", y.take(0, 4), -2);
        Due.is("take(3, 4) of a book in a van", y.take(3, 4), -2);
        Due.is("take(4, 4) of a lost book", y.take(4, 4), -2);
        Due.is("take(5, -1) of a book on a shelf", y.take(5, -1), -2);
        Due.sentence(30, "Throws NoSuchElementException if there is no such book");
        Due.counted("take", book -> y.take(book, 4), 6);
    }

    private static void giveBack() {
        Due.sentence(31, "a book that a reader has comes to the shelf of a branch");
        BranchCourier x = Due.everyState();
        Due.is("giveBack(0, 3)", x.giveBack(0, 3), 4);
        Due.is("format(0)", Due.format(x, 0), "0@3");
        Due.is("book(0, 6)", x.book(0, 6), NONE);
        Due.sentence(31, "Returns the reader");
        x.take(2, 5);
        Due.is("giveBack(2, 0)", x.giveBack(2, 0), 5);
        BranchCourier zero = Due.loaded("branches 2;van 1 0 1;book 0;ask 0 0 0;");
        zero.run(1);
        zero.take(0, 0);
        Due.is("giveBack(0, 0) of reader 0", zero.giveBack(0, 0), 0);
        Due.sentence(31, "-2 if no reader has it");
        Due.is("giveBack(0, 3) again", x.giveBack(0, 3), -2);
        Due.is("giveBack(1, 1) of a held book", x.giveBack(1, 1), -2);
        Due.is("giveBack(3, 1) of a book in a van", x.giveBack(3, 1), -2);
        Due.is("giveBack(4, 1) of a lost book", x.giveBack(4, 1), -2);
        Due.sentence(31, "-3 if the branch is closed");
        BranchCourier y = Due.everyState();
        Due.is("giveBack(0, 2)", y.giveBack(0, 2), -3);
        Due.is("format(0)", Due.format(y, 0), "0-4");
        y.open(2);
        Due.is("giveBack(0, 2) at an open branch", y.giveBack(0, 2), 4);
        Due.sentence(31, "Throws NoSuchElementException if there is no such book or branch");
        Due.counted("giveBack of a book", book -> y.giveBack(book, 1), 6);
        Due.counted("giveBack to a branch", branch -> y.giveBack(0, branch), 4);
    }

    /** The first and the last of 20 books are in van 0, which is to bring them to 1 in the next tick. */
    private static BranchCourier twentyBooks() {
        BranchCourier x = Due.loaded("branches 3;van 2 1 0;" + "book 0;" + "book 2;".repeat(18) + "book 0;"
            + "ask 0 7 1;ask 19 7 1;");
        x.run(1);
        return x;
    }

    private static void lose() {
        Due.sentence(32, "all books in a van are lost");
        BranchCourier x = Due.loaded("branches 2;van 3 1 0;van 3 1 0;" + "book 0;".repeat(5)
            + "ask 0 1 1;ask 1 1 1;ask 2 1 1;ask 3 1 1;ask 4 1 1;");
        x.run(1);
        x.recall(1);
        Due.sentence(32, "Returns how many.");
        Due.is("lose(0)", x.lose(0), 3);
        Due.is("lose(0) of a van that is empty now", x.lose(0), 0);
        Due.is("size(11)", x.size(11), 3);
        Due.is("the books in van 1", x.van(1, 4), 2);
        Due.is("a recalled book", Due.format(x, 1), "1?r 1:1");
        Due.is("its place", x.book(1, 1), NONE);
        Due.is("lose(1)", x.lose(1), 2);
        BranchCourier twenty = twentyBooks();
        Due.is("lose(0) with the first and the last of 20 books", twenty.lose(0), 2);
        Due.is("the first book", twenty.book(0, 0), 4);
        Due.is("the last book", twenty.book(19, 0), 4);
        Due.sentence(32, "Throws NoSuchElementException if there is no such van");
        Due.counted("lose", x::lose, 2);
    }

    private static void find() {
        Due.sentence(33, "a lost book comes to the shelf of a branch (open or not)");
        BranchCourier x = Due.everyState();
        Due.is("find(4, 2) at a closed branch", x.find(4, 2), 2);
        Due.is("format(4)", Due.format(x, 4), "4@2 4:1");
        x.undo();
        Due.is("find(4, 3) at an open branch", x.find(4, 3), 2);
        Due.is("format(4)", Due.format(x, 4), "4@3 4:1");
        Due.sentence(33, "Returns the goal that it has then (NONE without one), plus 1");
        x.undo();
        x.recall(4);
        Due.is("find of a recalled book of the home 3", x.find(4, 0), 4);
        x.undo();
        x.close(3);
        Due.is("find of a recalled book of a closed home", x.find(4, 0), 0);
        BranchCourier zero = Due.loaded("branches 2;van 1 1 0;book 0;ask 0 1 1;");
        zero.run(1);
        zero.lose(0);
        zero.cancel(0, 1);
        Due.is("find of a book of the home 0", zero.find(0, 1), 1);
        Due.sentence(33, "-2 if it is not lost");
        for (int book : new int[] {0, 1, 2, 3, 5}) {
            Due.is("find(" + book + ", 1)", x.find(book, 1), -2);
        }
        Due.is("find(4, 0) again", x.find(4, 0), -2);
        Due.sentence(33, "Throws NoSuchElementException if there is no such book or branch");
        BranchCourier y = Due.everyState();
        Due.counted("find of a book", book -> y.find(book, 1), 6);
        Due.counted("find at a branch", branch -> y.find(0, branch), 4);
    }

    private static void close() {
        Due.sentence(34, "Books that are held there are on the shelf there; their requests stay.");
        BranchCourier x = Due.everyState();
        Due.is("close(1)", x.close(1), 2);
        Due.is("format(1)", Due.format(x, 1), "1@1 4:1");
        Due.is("format(2)", Due.format(x, 2), "2@1 5:1 6:2");
        Due.is("book(2, 6)", x.book(2, 6), NONE);
        Due.is("book(2, 7)", x.book(2, 7), NONE);
        Due.is("branch(1, 2)", x.branch(1, 2), 0);
        Due.is("size(4)", x.size(4), 7);
        BranchCourier other = Due.everyState();
        other.close(0);
        Due.is("held at another branch", other.branch(1, 2), 2);
        BranchCourier twenty = twentyBooks();
        twenty.run(1);
        Due.is("the first and the last of 20 books are held", twenty.branch(1, 2), 2);
        twenty.close(1);
        Due.is("the first book", Due.format(twenty, 0), "0@1 7:1");
        Due.is("the last book", Due.format(twenty, 19), "19@1 7:1");
        Due.sentence(34, "Returns how many books are on its shelf then");
        Due.is("close(0) of a branch without books", x.close(0), 0);
        x.giveBack(0, 3);
        Due.is("close(3) of a branch with one", x.close(3), 1);
        BranchCourier held = Due.everyState();
        held.giveBack(0, 1);
        Due.is("close(1) of one on the shelf and two held", held.close(1), 3);
        Due.sentence(34, "-2 if it is closed");
        Due.is("close(2)", x.close(2), -2);
        Due.is("close(1) again", x.close(1), -2);
        Due.sentence(34, "Throws NoSuchElementException if there is no such branch");
        Due.counted("close", held::close, 4);
    }

    private static void open() {
        Due.sentence(35, "a branch opens");
        BranchCourier x = Due.everyState();
        x.open(2);
        Due.is("branch(2, 0)", x.branch(2, 0), 1);
        Due.sentence(35, "Returns how many books on its shelf have it as their goal then");
        x.undo();
        Due.is("open(2) with a book of this home", x.open(2), 1);
        x.undo();
        x.ask(5, 9, 0);
        Due.is("open(2) with a book that is asked for elsewhere", x.open(2), 0);
        x.undo();
        x.ask(0, 9, 2);
        Due.is("open(2) with a book elsewhere that is asked for here", x.open(2), 0);
        x.close(1);
        // Books 1 and 2 were held here; the one is asked for here alone, the other here first.
        Due.is("open(1)", x.open(1), 2);
        Due.is("branch(1, 2) until the next tick", x.branch(1, 2), 0);
        x.close(1);
        x.recall(1);
        Due.is("open(1) with a recalled book", x.open(1), 1);
        BranchCourier twenty = twentyBooks();
        twenty.run(1);
        twenty.close(1);
        Due.is("open(1) with the first and the last of 20 books", twenty.open(1), 2);
        Due.sentence(35, "-2 if it is open");
        Due.is("open(1) again", x.open(1), -2);
        Due.is("open(0)", x.open(0), -2);
        Due.sentence(35, "Throws NoSuchElementException if there is no such branch");
        Due.counted("open", x::open, 4);
    }

    private static void setHold() {
        Due.sentence(36, "sets HOLD; limits of books that are held stay");
        BranchCourier x = Due.everyState();
        Due.is("setHold(2)", x.setHold(2), 9);
        Due.is("size(6)", x.size(6), 2);
        Due.is("book(1, 7)", x.book(1, 7), 11);
        Due.is("book(2, 7)", x.book(2, 7), 10);
        Due.sentence(36, "hold: 1 to 50");
        Due.is("setHold(1)", x.setHold(1), 2);
        Due.is("setHold(50)", x.setHold(50), 1);
        Due.sentence(36, "Returns HOLD before.");
        Due.is("setHold(10)", x.setHold(10), 50);
        Due.is("setHold(10) of a new object", new BranchCourier().setHold(5), 10);
        Due.sentence(36, "Throws IllegalArgumentException if hold is out of range");
        for (int hold : new int[] {0, -1, 51, 257, Integer.MIN_VALUE, Integer.MAX_VALUE}) {
            Due.illegal("setHold(" + hold + ")", () -> x.setHold(hold));
        }
        Due.is("size(6)", x.size(6), 10);
    }

    private static void run() {
        Due.sentence(37, "ticks: 1 to 99");
        BranchCourier x = Due.loaded("branches 2;van 1 0 1;book 0;");
        Due.is("run(1)", x.run(1), 0);
        Due.is("size(5)", x.size(5), 1);
        Due.is("run(99)", x.run(99), 0);
        Due.is("size(5)", x.size(5), 100);
        Due.sentence(37, "Throws IllegalArgumentException if ticks is out of range");
        for (int ticks : new int[] {0, -1, 100, 257, Integer.MIN_VALUE, Integer.MAX_VALUE}) {
            Due.illegal("run(" + ticks + ")", () -> x.run(ticks));
        }
        Due.is("size(5)", x.size(5), 100);
        Due.sentence(37, "Returns how often a book was held anew in them");
        BranchCourier y = Due.loaded("branches 2;van 1 0 1;book 0;book 0;hold 1;ask 0 1 0;ask 0 2 0;ask 1 1 0;");
        Due.is("run(1) of two books", y.run(1), 2);
        Due.is("run(1) while they are held", y.run(1), 0);
        Due.is("run(1) of one that is held anew at once", y.run(1), 1);
        Due.is("run(9) of none", y.run(9), 0);
        BranchCourier z = Due.loaded("branches 2;van 1 0 1;book 0;book 0;hold 1;ask 0 1 0;ask 0 2 0;ask 1 1 0;");
        z.run(1);
        z.undo();
        Due.is("run(99) of all", z.run(99), 3);
    }

    private static void runToTheEnd() {
        Due.sentence(37, "-2 if the time would be greater than 9999");
        BranchCourier x = Due.loaded("branches 2;van 1 0 1;");
        for (int i = 0; i < 100; i++) {
            x.run(99);
        }
        Due.is("size(5)", x.size(5), 9900);
        x.run(1);
        Due.is("run(99) to 10000", x.run(99), -2);
        x.undo();
        Due.is("run(99) to 9999", x.run(99), 0);
        Due.is("run(1) to 10000", x.run(1), -2);
        Due.is("run(99)", x.run(99), -2);
        Due.is("size(5)", x.size(5), 9999);
        Due.is("undoCount()", x.undoCount(), 10);
        Due.is("undo()", x.undo(), 9);
        Due.is("size(5)", x.size(5), 9900);
    }
}
