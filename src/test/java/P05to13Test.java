/** Promises 5 to 13: what can be asked of branches, vans, books and requests. */
public final class P05to13Test {
    /**
     * In the ticks 1 to 7 van 1 brings book 1 from 3 to 2 and van 0 takes it on to 1, van 0 brings book 0 from 0 to 2
     * and van 1 takes it on to 3; both are held in the tick 7, with the limit 11.
     */
    private static final String TEXT =
        "branches 4;van 2 0 1 2;van 3 2 3;book 0;book 3;book 1;hold 4;ask 0 7 3;ask 0 8 0;ask 1 7 1;";
    private static final int NONE = BranchCourier.NONE;

    public static void main(String[] args) {
        sizes();
        books();
        vans();
        stops();
        inVans();
        branches();
        requests();
        places();
        requestsOfReaders();
        Due.end();
    }

    private static BranchCourier at(int time) {
        BranchCourier x = Due.loaded(TEXT);
        if (time > 0) {
            x.run(time);
        }
        return x;
    }

    private static void sizes() {
        Due.promise(5, "size");
        BranchCourier x = at(7);
        x.close(0);
        x.take(0, 7);
        x.recall(0);
        int[] due = {4, 3, 2, 3, 2, 7, 4, 1, 0, 1, 1, 0, 1};
        for (int what = 0; what < due.length; what++) {
            Due.is("size(" + what + ")", x.size(what), due[what]);
        }
        BranchCourier y = at(6);
        y.lose(0);
        y.setHold(9);
        int[] lost = {4, 4, 2, 3, 3, 6, 9, 1, 1, 0, 0, 1, 0};
        for (int what = 0; what < lost.length; what++) {
            Due.is("size(" + what + ") with a lost book", y.size(what), lost[what]);
        }
        Due.missing("size(-1)", () -> x.size(-1));
        Due.missing("size(13)", () -> x.size(13));
        Due.missing("size(MIN)", () -> x.size(Integer.MIN_VALUE));
    }

    private static void book(BranchCourier x, int book, int... due) {
        for (int what = 0; what < due.length; what++) {
            Due.is("book(" + book + ", " + what + ")", x.book(book, what), due[what]);
        }
    }

    private static void books() {
        Due.promise(6, "book at first");
        BranchCourier x = at(0);
        book(x, 0, 0, 0, 0, 3, 2, 0, NONE, NONE, 2);
        book(x, 1, 0, 3, 3, 1, 1, 0, NONE, NONE, 2);
        book(x, 2, 0, 1, 1, 1, 0, 0, NONE, NONE, 0);
        Due.promise(6, "book in a van");
        x.run(6);
        book(x, 0, 1, 1, 0, 3, 2, 0, NONE, NONE, NONE);
        book(x, 1, 1, 0, 3, 1, 1, 0, NONE, NONE, NONE);
        Due.promise(6, "book held");
        x.run(1);
        book(x, 0, 2, 3, 0, 3, 2, 0, 7, 11, 0);
        book(x, 1, 2, 1, 3, 1, 1, 0, 7, 11, 0);
        Due.promise(6, "book with a reader");
        x.take(0, 7);
        book(x, 0, 3, NONE, 0, 0, 1, 0, 7, NONE, NONE);
        Due.promise(6, "book recalled");
        x.recall(1);
        book(x, 1, 0, 1, 3, 3, 1, 1, NONE, NONE, 2);
        x.close(3);
        book(x, 1, 0, 1, 3, NONE, 1, 1, NONE, NONE, NONE);
        Due.promise(6, "book given back, without a way");
        x.giveBack(0, 2);
        book(x, 0, 0, 2, 0, 0, 1, 0, NONE, NONE, 1);
        x.close(2);
        book(x, 0, 0, 2, 0, 0, 1, 0, NONE, NONE, NONE);
        x.close(0);
        book(x, 0, 0, 2, 0, NONE, 1, 0, NONE, NONE, NONE);
        Due.promise(6, "book lost");
        BranchCourier y = at(6);
        y.lose(1);
        book(y, 0, 4, NONE, 0, 3, 2, 0, NONE, NONE, NONE);
        Due.promise(6, "no such book or number");
        Due.missing("book(-1, 0)", () -> x.book(-1, 0));
        Due.missing("book(3, 0)", () -> x.book(3, 0));
        Due.missing("book(0, -1)", () -> x.book(0, -1));
        Due.missing("book(0, 9)", () -> x.book(0, 9));
        goals();
    }

    private static void goals() {
        Due.promise(6, "goals");
        BranchCourier x = Due.loaded("branches 3;van 1 0 1;book 0;ask 0 1 1;ask 0 2 2;ask 0 3 1;");
        Due.is("goal of the first request", x.book(0, 3), 1);
        x.close(1);
        Due.is("goal of the second request", x.book(0, 3), 2);
        x.close(2);
        Due.is("goal without open requests", x.book(0, 3), 0);
        x.close(0);
        Due.is("goal without open branches", x.book(0, 3), NONE);
        x.open(1);
        Due.is("goal of an opened branch", x.book(0, 3), 1);
        x.open(2);
        Due.is("goal of the first of two", x.book(0, 3), 1);
        x.cancel(0, 1);
        Due.is("goal behind cancel", x.book(0, 3), 2);
        x.ask(0, 1, 0);
        x.open(0);
        Due.is("goal behind ask", x.book(0, 3), 2);
    }

    private static void vans() {
        Due.promise(7, "van");
        BranchCourier x = Due.loaded(
            "branches 4;van 9 0 1 0 2;van 1 3 2;book 0;book 0;book 3;ask 0 1 1;ask 1 1 2;ask 2 1 2;");
        int[][] due = {{9, 4, 0, 0, 0, 3}, {1, 2, 0, 3, 0, 2}};
        int[][] behind = {{9, 4, 3, 2, 1, 3}, {1, 2, 1, 2, 0, 2}};
        vans(x, due);
        x.run(2);
        Due.is("van(0, 2)", x.van(0, 2), 2);
        Due.is("van(0, 3)", x.van(0, 3), 0);
        Due.is("van(0, 4)", x.van(0, 4), 2);
        x.run(5);
        x.undo();
        x.run(1);
        // Books 1 and 2 have just left their vans at 2; book 0 goes on to 1.
        vans(x, behind);
        x.close(0);
        Due.is("van(0, 5) with 0 closed", x.van(0, 5), 2);
        Due.is("van(1, 5) with 0 closed", x.van(1, 5), 2);
        x.close(3);
        Due.is("van(1, 5) with 3 closed", x.van(1, 5), 1);
        Due.missing("van(-1, 0)", () -> x.van(-1, 0));
        Due.missing("van(2, 0)", () -> x.van(2, 0));
        Due.missing("van(0, -1)", () -> x.van(0, -1));
        Due.missing("van(0, 6)", () -> x.van(0, 6));
    }

    private static void vans(BranchCourier x, int[][] due) {
        for (int van = 0; van < due.length; van++) {
            for (int what = 0; what < due[van].length; what++) {
                Due.is("van(" + van + ", " + what + ")", x.van(van, what), due[van][what]);
            }
        }
    }

    private static void stops() {
        Due.promise(8, "stop");
        BranchCourier x = Due.loaded("branches 6;van 9 0 1 0 2 5 4 3 2;van 1 3 2;");
        int[] due = {0, 1, 0, 2, 5, 4, 3, 2};
        for (int stop = 0; stop < due.length; stop++) {
            Due.is("stop(0, " + stop + ")", x.stop(0, stop), due[stop]);
        }
        Due.is("stop(1, 0)", x.stop(1, 0), 3);
        Due.is("stop(1, 1)", x.stop(1, 1), 2);
        Due.missing("stop(0, 8)", () -> x.stop(0, 8));
        Due.missing("stop(1, 2)", () -> x.stop(1, 2));
        Due.missing("stop(0, -1)", () -> x.stop(0, -1));
        Due.missing("stop(2, 0)", () -> x.stop(2, 0));
        Due.missing("stop(-1, 0)", () -> x.stop(-1, 0));
    }

    private static void inVans() {
        Due.promise(9, "inVan");
        BranchCourier x = Due.loaded("branches 2;van 3 1 0;van 9 0 1;book 1;book 0;book 1;book 0;book 0;book 0;"
            + "ask 1 1 1;ask 3 1 1;ask 4 1 1;ask 5 1 1;");
        x.run(1);
        Due.is("inVan(0, 0)", x.inVan(0, 0), 1);
        Due.is("inVan(0, 1)", x.inVan(0, 1), 3);
        Due.is("inVan(0, 2)", x.inVan(0, 2), 4);
        Due.missing("inVan(0, 3)", () -> x.inVan(0, 3));
        Due.missing("inVan(0, -1)", () -> x.inVan(0, -1));
        Due.missing("inVan(1, 0)", () -> x.inVan(1, 0));
        Due.missing("inVan(-1, 0)", () -> x.inVan(-1, 0));
        Due.missing("inVan(2, 0)", () -> x.inVan(2, 0));
        x.run(1);
        Due.is("inVan(1, 0)", x.inVan(1, 0), 5);
        Due.missing("inVan(0, 0)", () -> x.inVan(0, 0));
        BranchCourier y = at(6);
        Due.is("inVan(1, 0) of book 0", y.inVan(1, 0), 0);
        Due.is("inVan(0, 0) of book 1", y.inVan(0, 0), 1);
    }

    private static void branches() {
        Due.promise(10, "branch");
        BranchCourier x = at(7);
        x.close(0);
        int[][] due = {{0, 0, 0, 1, 1, 1}, {1, 1, 1, 1, 1, 1}, {1, 0, 0, 0, 0, 2}, {1, 0, 1, 1, 1, 1}};
        for (int branch = 0; branch < due.length; branch++) {
            for (int what = 0; what < due[branch].length; what++) {
                Due.is("branch(" + branch + ", " + what + ")", x.branch(branch, what), due[branch][what]);
            }
        }
        BranchCourier y = Due.loaded("branches 3;van 1 0 1 0 2;van 1 1 2;book 1;book 1;book 1;ask 0 1 1;ask 1 1 1;");
        y.run(1);
        int[] twice = {1, 1, 2, 2, 3, 2};
        for (int what = 0; what < twice.length; what++) {
            Due.is("branch(1, " + what + ")", y.branch(1, what), twice[what]);
        }
        Due.is("branch(0, 5) with two stops of a van", y.branch(0, 5), 1);
        Due.missing("branch(-1, 0)", () -> x.branch(-1, 0));
        Due.missing("branch(4, 0)", () -> x.branch(4, 0));
        Due.missing("branch(0, -1)", () -> x.branch(0, -1));
        Due.missing("branch(0, 6)", () -> x.branch(0, 6));
    }

    private static void requests() {
        Due.promise(11, "request");
        BranchCourier x = at(7);
        int[][] due = {{7, 3, 1}, {8, 0, 0}};
        for (int i = 0; i < due.length; i++) {
            for (int what = 0; what < 3; what++) {
                Due.is("request(0, " + i + ", " + what + ")", x.request(0, i, what), due[i][what]);
            }
        }
        Due.is("request(1, 0, 0)", x.request(1, 0, 0), 7);
        Due.is("request(1, 0, 1)", x.request(1, 0, 1), 1);
        Due.missing("request(0, 2, 0)", () -> x.request(0, 2, 0));
        Due.missing("request(1, 1, 0)", () -> x.request(1, 1, 0));
        Due.missing("request(2, 0, 0)", () -> x.request(2, 0, 0));
        Due.missing("request(0, -1, 0)", () -> x.request(0, -1, 0));
        Due.missing("request(0, 0, 3)", () -> x.request(0, 0, 3));
        Due.missing("request(0, 0, -1)", () -> x.request(0, 0, -1));
        Due.missing("request(3, 0, 0)", () -> x.request(3, 0, 0));
        Due.missing("request(-1, 0, 0)", () -> x.request(-1, 0, 0));
        x.take(0, 7);
        x.ask(0, 9, 2);
        Due.is("request(0, 0, 0) behind take", x.request(0, 0, 0), 8);
        Due.is("request(0, 1, 0) behind ask", x.request(0, 1, 0), 9);
        Due.is("request(0, 0, 2) of a book with a reader", x.request(0, 0, 2), 0);
    }

    private static void places() {
        Due.promise(12, "placeOf");
        BranchCourier x = at(0);
        Due.is("placeOf(0, 7)", x.placeOf(0, 7), 0);
        Due.is("placeOf(0, 8)", x.placeOf(0, 8), 1);
        Due.is("placeOf(1, 7)", x.placeOf(1, 7), 0);
        Due.is("placeOf(1, 8)", x.placeOf(1, 8), NONE);
        Due.is("placeOf(2, 0)", x.placeOf(2, 0), NONE);
        Due.is("placeOf(0, -1)", x.placeOf(0, -1), NONE);
        Due.is("placeOf(0, 100)", x.placeOf(0, 100), NONE);
        x.cancel(0, 7);
        Due.is("placeOf(0, 8) behind cancel", x.placeOf(0, 8), 0);
        Due.missing("placeOf(3, 7)", () -> x.placeOf(3, 7));
        Due.missing("placeOf(-1, 7)", () -> x.placeOf(-1, 7));
    }

    private static void requestsOfReaders() {
        Due.promise(13, "requestsOf");
        BranchCourier x = at(0);
        Due.is("requestsOf(7)", x.requestsOf(7), 2);
        Due.is("requestsOf(8)", x.requestsOf(8), 1);
        Due.is("requestsOf(0)", x.requestsOf(0), 0);
        Due.is("requestsOf(-1)", x.requestsOf(-1), 0);
        Due.is("requestsOf(MAX)", x.requestsOf(Integer.MAX_VALUE), 0);
        x.run(7);
        x.take(1, 7);
        Due.is("requestsOf(7) behind take", x.requestsOf(7), 1);
    }
}
