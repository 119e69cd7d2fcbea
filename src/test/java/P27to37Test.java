/** Promises 27 to 37: the operations. */
public final class P27to37Test {
    private static final int NONE = BranchCourier.NONE;
    /** From the tick 1 on the van stands at 0, 1, 2, 1, 0, ...; book 0 is held at 1 in the tick 2, book 1 at 2 in 3. */
    private static final String TEXT =
        "branches 4;van 2 1 0 1 2;book 0;book 0;book 2;hold 3;ask 0 5 1;ask 0 6 2;ask 1 5 2;";

    public static void main(String[] args) {
        ask();
        askTooMuch();
        cancel();
        recall();
        take();
        giveBack();
        lose();
        find();
        close();
        open();
        setHold();
        run();
        theLastTick();
        Due.end();
    }

    private static BranchCourier at(int time) {
        BranchCourier x = Due.loaded(TEXT);
        if (time > 0) {
            x.run(time);
        }
        return x;
    }

    private static void all(BranchCourier x, String what, String... due) {
        for (int book = 0; book < due.length; book++) {
            Due.is("format(" + book + ") " + what, Due.format(x, book), due[book]);
        }
    }

    /** A call that fails or throws must not be recorded. */
    private static void recorded(BranchCourier x, String what, int due) {
        Due.is("undoCount() " + what, x.undoCount(), due);
    }

    private static void ask() {
        Due.promise(27, "ask");
        BranchCourier x = at(0);
        Due.is("ask(0, 7, 3)", x.ask(0, 7, 3), 2);
        Due.is("ask(2, 99, 2)", x.ask(2, 99, 2), 0);
        Due.is("ask(2, 0, 2)", x.ask(2, 0, 2), 1);
        all(x, "behind ask", "0@0 5:1 6:2 7:3", "1@0 5:2", "2@2 99:2 0:2");
        Due.is("ask(0, 6, 1) of a reader who asked", x.ask(0, 6, 1), -3);
        Due.missing("ask(3, 1, 1)", () -> x.ask(3, 1, 1));
        Due.missing("ask(-1, 1, 1)", () -> x.ask(-1, 1, 1));
        Due.missing("ask(0, 100, 4)", () -> x.ask(0, 100, 4));
        Due.missing("ask(0, 1, -1)", () -> x.ask(0, 1, -1));
        Due.missing("ask(3, -1, 0)", () -> x.ask(3, -1, 0));
        Due.illegal("ask(0, 100, 0)", () -> x.ask(0, 100, 0));
        Due.illegal("ask(0, -1, 0)", () -> x.ask(0, -1, 0));
        recorded(x, "behind ask", 3);
        x.close(3);
        Due.is("ask(1, 1, 3) at a closed branch", x.ask(1, 1, 3), 1);
        BranchCourier y = at(2);
        y.take(0, 5);
        Due.is("ask(0, 5, 2) of the reader who has it", y.ask(0, 5, 2), -3);
        Due.is("ask(0, 6, 2) of the reader who asked", y.ask(0, 6, 2), -3);
        Due.is("ask(0, 7, 2) of another one", y.ask(0, 7, 2), 1);
        Due.is("ask(1, 6, 2) for another book", y.ask(1, 6, 2), 1);
        y.giveBack(0, 2);
        Due.is("ask(0, 5, 2) of the reader who had it", y.ask(0, 5, 2), 2);
    }

    private static void askTooMuch() {
        Due.promise(27, "ask with 40 requests");
        BranchCourier x = at(0);
        for (int reader = 10; reader < 47; reader++) {
            Due.is("ask " + reader, x.ask(2, reader, 2), reader - 10);
        }
        Due.is("size(4)", x.size(4), 40);
        Due.is("ask(2, 50, 2)", x.ask(2, 50, 2), -2);
        Due.is("ask(2, 10, 2) of a reader who asked", x.ask(2, 10, 2), -2);
        Due.illegal("ask(2, 100, 2)", () -> x.ask(2, 100, 2));
        Due.missing("ask(2, 10, 4)", () -> x.ask(2, 10, 4));
        x.cancel(0, 5);
        Due.is("ask(2, 50, 2) behind cancel", x.ask(2, 50, 2), 37);
    }

    private static void cancel() {
        Due.promise(28, "cancel");
        BranchCourier x = at(0);
        x.ask(0, 7, 3);
        Due.is("cancel(0, 6)", x.cancel(0, 6), 1);
        Due.is("cancel(0, 7)", x.cancel(0, 7), 1);
        Due.is("cancel(0, 7) again", x.cancel(0, 7), -2);
        Due.is("cancel(1, 6)", x.cancel(1, 6), -2);
        Due.is("cancel(0, -1)", x.cancel(0, -1), -2);
        Due.is("cancel(0, 100)", x.cancel(0, 100), -2);
        all(x, "behind cancel", "0@0 5:1", "1@0 5:2", "2@2");
        Due.missing("cancel(3, 5)", () -> x.cancel(3, 5));
        Due.missing("cancel(-1, 5)", () -> x.cancel(-1, 5));
        recorded(x, "behind cancel", 3);
        BranchCourier y = at(2);
        all(y, "held", "0!1 5:1 6:2", "1>0 5:2", "2@2");
        Due.is("cancel(0, 6) of a book held for another reader", y.cancel(0, 6), 1);
        Due.is("book(0, 0)", y.book(0, 0), 2);
        Due.is("cancel(0, 5) of a held book", y.cancel(0, 5), 0);
        all(y, "behind cancel", "0@1", "1>0 5:2", "2@2");
        Due.is("book(0, 6)", y.book(0, 6), NONE);
        Due.is("book(0, 7)", y.book(0, 7), NONE);
        Due.is("cancel(1, 5) of a book in a van", y.cancel(1, 5), 0);
        all(y, "behind another cancel", "0@1", "1>0", "2@2");
    }

    private static void recall() {
        Due.promise(29, "recall");
        BranchCourier x = at(2);
        Due.is("recall(0) of a held book", x.recall(0), 2);
        Due.is("recall(1) of a book in a van", x.recall(1), 1);
        all(x, "behind recall", "0@1r 5:1 6:2", "1>0r 5:2", "2@2");
        Due.is("book(0, 6)", x.book(0, 6), NONE);
        Due.is("recall(0) again", x.recall(0), -2);
        Due.is("recall(2) at its home", x.recall(2), -3);
        Due.missing("recall(3)", () -> x.recall(3));
        Due.missing("recall(-1)", () -> x.recall(-1));
        recorded(x, "behind recall", 3);
        x.lose(0);
        x.undo();
        x.undo();
        x.lose(0);
        Due.is("recall(1) of a lost book", x.recall(1), 4);
        x.find(1, 0);
        Due.is("recall(1) of a recalled book at its home", x.recall(1), -2);
        x.run(1);
        all(x, "not recalled any more", "0@1r 5:1 6:2", "1@0 5:2", "2@2");
        BranchCourier y = at(2);
        y.take(0, 5);
        Due.is("recall(0) of a book with a reader", y.recall(0), 3);
        y.giveBack(0, 1);
        all(y, "behind giveBack", "0@1r 6:2");
        y.undo();
        y.undo();
        y.giveBack(0, 2);
        Due.is("recall(0) on a shelf", y.recall(0), 0);
    }

    private static void take() {
        Due.promise(30, "take");
        BranchCourier x = at(2);
        Due.is("take(0, 6) of another reader", x.take(0, 6), -2);
        Due.is("take(1, 5) of a book in a van", x.take(1, 5), -2);
        Due.is("take(2, -1) of a book on a shelf", x.take(2, -1), -2);
        Due.missing("take(3, 5)", () -> x.take(3, 5));
        Due.missing("take(-1, 5)", () -> x.take(-1, 5));
        recorded(x, "ahead of take", 1);
        Due.is("take(0, 5)", x.take(0, 5), 1);
        all(x, "behind take", "0-5 6:2", "1>0 5:2", "2@2");
        Due.is("take(0, 5) again", x.take(0, 5), -2);
        Due.is("size(4)", x.size(4), 2);
        Due.is("book(0, 1)", x.book(0, 1), NONE);
        Due.is("book(0, 7)", x.book(0, 7), NONE);
        recorded(x, "behind take", 2);
        x.run(9);
        all(x, "with the reader", "0-5 6:2");
    }

    private static void giveBack() {
        Due.promise(31, "giveBack");
        BranchCourier x = at(2);
        Due.is("giveBack(0, 1) of a held book", x.giveBack(0, 1), -2);
        x.take(0, 5);
        x.close(3);
        Due.is("giveBack(0, 3) at a closed branch", x.giveBack(0, 3), -3);
        Due.is("giveBack(1, 3) of a book in a van", x.giveBack(1, 3), -2);
        Due.missing("giveBack(3, 1)", () -> x.giveBack(3, 1));
        Due.missing("giveBack(-1, 1)", () -> x.giveBack(-1, 1));
        Due.missing("giveBack(0, 4)", () -> x.giveBack(0, 4));
        Due.missing("giveBack(2, -1)", () -> x.giveBack(2, -1));
        recorded(x, "ahead of giveBack", 3);
        Due.is("giveBack(0, 2)", x.giveBack(0, 2), 5);
        all(x, "behind giveBack", "0@2 6:2");
        Due.is("book(0, 6)", x.book(0, 6), NONE);
        Due.is("giveBack(0, 2) again", x.giveBack(0, 2), -2);
        x.run(1);
        all(x, "a tick behind giveBack", "0!2 6:2");
    }

    private static void lose() {
        Due.promise(32, "lose");
        BranchCourier x = Due.loaded("branches 3;van 3 1 0;van 3 1 2;book 0;book 2;book 0;book 0;ask 0 1 1;ask 1 1 1;"
            + "ask 3 1 1;");
        x.run(1);
        x.recall(3);
        all(x, "in vans", "0>0 1:1", "1>1 1:1", "2@0", "3>0r 1:1");
        Due.is("lose(0)", x.lose(0), 2);
        all(x, "behind lose", "0? 1:1", "1>1 1:1", "2@0", "3?r 1:1");
        Due.is("book(0, 1)", x.book(0, 1), NONE);
        Due.is("van(0, 4)", x.van(0, 4), 0);
        Due.is("lose(0) of an empty van", x.lose(0), 0);
        recorded(x, "behind lose", 4);
        Due.missing("lose(2)", () -> x.lose(2));
        Due.missing("lose(-1)", () -> x.lose(-1));
        recorded(x, "behind lose that throws", 4);
        x.run(5);
        all(x, "still lost", "0? 1:1", "1!1 1:1", "2@0", "3?r 1:1");
        Due.is("size(11)", x.size(11), 2);
    }

    private static void find() {
        Due.promise(33, "find");
        BranchCourier x = at(2);
        x.lose(0);
        Due.is("find(0, 1) of a held book", x.find(0, 1), -2);
        Due.missing("find(3, 1)", () -> x.find(3, 1));
        Due.missing("find(-1, 1)", () -> x.find(-1, 1));
        Due.missing("find(0, 4)", () -> x.find(0, 4));
        Due.missing("find(1, -1)", () -> x.find(1, -1));
        x.close(3);
        recorded(x, "ahead of find", 3);
        Due.is("find(1, 3) at a closed branch", x.find(1, 3), 3);
        all(x, "behind find", "0!1 5:1 6:2", "1@3 5:2");
        Due.is("find(1, 3) again", x.find(1, 3), -2);
        recorded(x, "behind find", 4);
        BranchCourier y = at(2);
        y.recall(1);
        y.lose(0);
        Due.is("find(1, 2) of a recalled book", y.find(1, 2), 1);
        y.undo();
        y.close(0);
        Due.is("find(1, 2) without a goal", y.find(1, 2), 0);
    }

    private static void close() {
        Due.promise(34, "close");
        BranchCourier x = Due.loaded("branches 3;van 3 1 0;book 1;book 1;book 0;book 1;ask 0 1 1;ask 0 2 2;ask 1 1 1;"
            + "ask 3 1 0;");
        x.run(2);
        all(x, "ahead of close", "0!1 1:1 2:2", "1!1 1:1", "2@0", "3>0 1:0");
        Due.is("close(1)", x.close(1), 2);
        all(x, "behind close", "0@1 1:1 2:2", "1@1 1:1", "2@0", "3>0 1:0");
        Due.is("book(0, 6)", x.book(0, 6), NONE);
        Due.is("book(0, 7)", x.book(0, 7), NONE);
        Due.is("book(0, 3)", x.book(0, 3), 2);
        Due.is("size(1)", x.size(1), 2);
        Due.is("branch(1, 0)", x.branch(1, 0), 0);
        Due.is("close(1) again", x.close(1), -2);
        Due.is("close(2) of an empty branch", x.close(2), 0);
        Due.missing("close(3)", () -> x.close(3));
        Due.missing("close(-1)", () -> x.close(-1));
        recorded(x, "behind close", 3);
        Due.is("close(0)", x.close(0), 1);
        Due.is("size(1)", x.size(1), 0);
    }

    private static void open() {
        Due.promise(35, "open");
        BranchCourier x = Due.loaded("branches 3;van 3 1 0;book 1;book 1;book 1;book 0;book 1;ask 0 1 1;ask 1 1 0;"
            + "ask 2 1 2;ask 4 1 2;ask 4 2 1;");
        Due.is("open(1) of an open branch", x.open(1), -2);
        x.close(1);
        x.close(2);
        // Books 0, 2 and 4 have 1 as their goal: asked for there, at home, and asked for there by the second request.
        Due.is("open(1)", x.open(1), 3);
        Due.is("open(1) again", x.open(1), -2);
        Due.is("branch(1, 0)", x.branch(1, 0), 1);
        x.close(1);
        Due.is("open(2)", x.open(2), 0);
        Due.is("open(1) with 2 open", x.open(1), 1);
        Due.missing("open(3)", () -> x.open(3));
        Due.missing("open(-1)", () -> x.open(-1));
        recorded(x, "behind open", 6);
        all(x, "not held before the next tick", "0@1 1:1");
    }

    private static void setHold() {
        Due.promise(36, "setHold");
        BranchCourier x = at(2);
        Due.is("setHold(1)", x.setHold(1), 3);
        Due.is("setHold(50)", x.setHold(50), 1);
        Due.is("setHold(50) again", x.setHold(50), 50);
        Due.is("size(6)", x.size(6), 50);
        Due.is("book(0, 7) of a held book", x.book(0, 7), 5);
        Due.illegal("setHold(0)", () -> x.setHold(0));
        Due.illegal("setHold(51)", () -> x.setHold(51));
        Due.illegal("setHold(-1)", () -> x.setHold(-1));
        Due.is("size(6) behind wrong calls", x.size(6), 50);
        recorded(x, "behind setHold", 4);
        x.run(1);
        Due.is("book(1, 7) of a book held later", x.book(1, 7), 53);
    }

    private static void run() {
        Due.promise(37, "run");
        BranchCourier x = at(0);
        Due.is("run(1)", x.run(1), 0);
        all(x, "at 1", "0>0 5:1 6:2", "1>0 5:2", "2@2");
        Due.is("run(1)", x.run(1), 1);
        all(x, "at 2", "0!1 5:1 6:2", "1>0 5:2", "2@2");
        Due.is("run(1)", x.run(1), 1);
        all(x, "at 3", "0!1 5:1 6:2", "1!2 5:2", "2@2");
        Due.is("run(2)", x.run(2), 0);
        all(x, "at 5", "0!1 5:1 6:2", "1!2 5:2", "2@2");
        Due.is("run(1) behind the limit", x.run(1), 0);
        all(x, "at 6", "0@1 6:2", "1!2 5:2", "2@2");
        Due.is("run(5)", x.run(5), 1);
        all(x, "at 11", "0!2 6:2", "1>0", "2@2");
        Due.is("size(5)", x.size(5), 11);
        Due.is("run(99)", x.run(99), 0);
        all(x, "at 110", "0@0", "1@0", "2@2");
        recorded(x, "behind run", 7);
        Due.illegal("run(0)", () -> x.run(0));
        Due.illegal("run(-1)", () -> x.run(-1));
        Due.illegal("run(100)", () -> x.run(100));
        recorded(x, "behind run that throws", 7);
        Due.is("run(3) of all new holds", at(0).run(3), 2);
        BranchCourier y = Due.loaded("branches 2;van 1 0 1;book 0;hold 1;ask 0 1 0;ask 0 2 0;ask 0 3 0;");
        Due.is("run(99) of a book held anew in a tick", y.run(99), 3);
    }

    private static void theLastTick() {
        Due.promise(37, "run to the time 9999");
        BranchCourier x = at(0);
        for (int i = 0; i < 100; i++) {
            x.run(99);
        }
        x.run(98);
        Due.is("size(5)", x.size(5), 9998);
        Due.is("run(2)", x.run(2), -2);
        Due.illegal("run(100)", () -> x.run(100));
        Due.is("size(5) behind run(2)", x.size(5), 9998);
        Due.is("run(1)", x.run(1), 0);
        Due.is("size(5)", x.size(5), 9999);
        Due.is("run(1)", x.run(1), -2);
        Due.is("undo()", x.undo(), 9);
        Due.is("size(5) behind undo", x.size(5), 9998);
    }
}
