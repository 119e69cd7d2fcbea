/** The sentences of 'What it is', 'Terms' and 'Ways' that name edges, each with checks of its own. */
public final class EdgesOfTermsTest {
    private static final int NONE = BranchCourier.NONE;
    private static final String HEAD = "branches 2;van 5 0 1;";

    public static void main(String[] args) {
        calls();
        branches();
        vans();
        room();
        stops();
        books();
        requests();
        goals();
        legs();
        Due.end();
    }

    private static void calls() {
        Due.sentence("What it is", "An object is used for at most 512 calls after it has been made");
        BranchCourier x = Due.loaded(HEAD + "book 0;");
        // Two feeds and the load were three calls.
        for (int call = 4; call <= 509; call++) {
            x.run(1);
        }
        Due.is("call 510: size(5)", x.size(5), 506);
        Due.is("call 511: bookIn(0, 0, 200)", x.bookIn(0, 0, 200), 0);
        Due.is("call 512: undo()", x.undo(), 9);
    }

    private static void branches() {
        Due.sentence("Terms", "There are 2 to 6 branches");
        Due.bad("branches ^1;van 5 0 1;", 2);
        Due.bad("branches ^0;van 5 0 1;", 2);
        Due.good("branches 2;van 5 0 1;", 0);
        Due.good("branches 6;van 5 0 5;", 0);
        Due.bad("branches ^7;van 5 0 1;", 2);
        Due.is("size(0) of 2", Due.loaded("branches 2;van 5 0 1;").size(0), 2);
        Due.is("size(0) of 6", Due.loaded("branches 6;van 5 0 1;").size(0), 6);
        Due.sentence("Terms", "2 to 6 branches, numbered from 0");
        BranchCourier two = Due.loaded("branches 2;van 5 0 1;");
        Due.counted("branch of 2", b -> two.branch(b, 0), 2);
        BranchCourier six = Due.loaded("branches 6;van 5 0 1;");
        Due.counted("branch of 6", b -> six.branch(b, 0), 6);
        Due.sentence("Terms", "each open or closed (open at first)");
        BranchCourier x = Due.loaded("branches 6;van 5 0 1;");
        for (int branch = 0; branch < 6; branch++) {
            Due.is("branch(" + branch + ", 0) at first", x.branch(branch, 0), 1);
            x.close(branch);
            Due.is("branch(" + branch + ", 0) closed", x.branch(branch, 0), 0);
        }
        Due.is("size(1) with all closed", x.size(1), 0);
        Due.load(x, "branches 6;van 5 0 1;");
        Due.is("size(1) behind another load", x.size(1), 6);
    }

    private static void vans() {
        Due.sentence("Terms", "There are 1 to 4 vans");
        Due.bad("branches 2;^", 1);
        Due.good("branches 2;van 5 0 1;", 0);
        Due.good("branches 2;" + "van 5 0 1;".repeat(4), 0);
        Due.bad("branches 2;" + "van 5 0 1;".repeat(4) + "^van 5 0 1;", 3);
        Due.sentence("Terms", "1 to 4 vans, numbered from 0");
        BranchCourier one = Due.loaded("branches 2;van 5 0 1;");
        Due.is("size(2)", one.size(2), 1);
        Due.counted("van of 1", v -> one.van(v, 0), 1);
        BranchCourier four = Due.loaded("branches 2;van 5 0 1;van 6 0 1;van 7 0 1;van 8 0 1;");
        Due.is("size(2)", four.size(2), 4);
        Due.counted("van of 4", v -> four.van(v, 0), 4);
        for (int van = 0; van < 4; van++) {
            Due.is("van(" + van + ", 0)", four.van(van, 0), 5 + van);
        }
    }

    private static void room() {
        Due.sentence("Terms", "A van has room for 1 to 9 books");
        Due.bad("branches 2;van ^0 0 1;", 2);
        Due.bad("branches 2;van ^10 0 1;", 2);
        BranchCourier one = Due.loaded("branches 2;van 1 1 0;book 0;book 0;ask 0 1 1;ask 1 1 1;");
        one.run(1);
        Due.is("books in a van for 1", one.van(0, 4), 1);
        StringBuilder text = new StringBuilder("branches 2;van 9 1 0;" + "book 0;".repeat(10));
        for (int book = 0; book < 10; book++) {
            text.append("ask ").append(book).append(" 1 1;");
        }
        BranchCourier nine = Due.loaded(text.toString());
        nine.run(1);
        Due.is("books in a van for 9", nine.van(0, 4), 9);
        Due.is("the tenth book", nine.book(9, 0), 0);
    }

    private static void stops() {
        Due.sentence("Terms", "a route of 2 to 8 stops, numbered from 0, each of which is a branch");
        Due.bad("branches 2;van 5 0^;", 1);
        Due.good("branches 2;van 5 0 1;", 0);
        Due.good("branches 6;van 5 0 1 2 3 4 5 0 1;", 0);
        Due.bad("branches 6;van 5 0 1 2 3 4 5 0 1 ^2;", 3);
        Due.bad("branches 6;van 5 0 ^6;", 2);
        BranchCourier x = Due.loaded("branches 6;van 5 0 1 2 3 4 5 0 1;van 1 5 4;");
        Due.is("van(0, 1)", x.van(0, 1), 8);
        Due.is("van(1, 1)", x.van(1, 1), 2);
        Due.counted("stop of 8", s -> x.stop(0, s), 8);
        Due.counted("stop of 2", s -> x.stop(1, s), 2);
        Due.sentence("Terms", "a branch may be a stop several times");
        Due.good("branches 2;van 5 0 1 0 1 0 1 0 1;", 0);
        Due.good("branches 3;van 5 0 1 0 2;", 0);
        Due.sentence("Terms", "but not two times one behind the other");
        Due.bad("branches 3;van 5 0 ^0;", 4);
        Due.bad("branches 3;van 5 0 1 2 ^2;", 4);
        Due.bad("branches 3;van 5 0 1 2 ^2 0 1;", 4);
        Due.sentence("Terms", "nor as the last and the first stop");
        Due.bad("branches 3;van 5 0 1 0^;", 4);
        Due.bad("branches 3;van 5 2 1 0 1 0 1 0 2^;", 4);
        Due.good("branches 3;van 5 2 1 0 1 0 1 2 1;", 0);
        Due.sentence("Terms", "It stands at a stop, at first at the stop 0.");
        Due.is("van(1, 2)", x.van(1, 2), 0);
        Due.is("van(1, 3)", x.van(1, 3), 5);
        x.run(3);
        Due.load(x, "branches 3;van 5 2 1;van 5 1 0;");
        Due.is("van(0, 2) behind another load", x.van(0, 2), 0);
        Due.is("van(1, 3) behind another load", x.van(1, 3), 1);
    }

    private static void books() {
        Due.sentence("Terms", "There are at most 20 books, numbered from 0.");
        Due.good(HEAD, 0);
        Due.good(HEAD + "book 0;", 1);
        Due.good(HEAD + "book 0;".repeat(20), 20);
        Due.bad(HEAD + "book 0;".repeat(20) + "^book 0;", 3);
        BranchCourier none = Due.loaded(HEAD);
        Due.missing("book(0, 0) without books", () -> none.book(0, 0));
        BranchCourier twenty = Due.loaded(HEAD + "book 0;".repeat(19) + "book 1;");
        Due.counted("book of 20", b -> twenty.book(b, 0), 20);
        Due.is("book(19, 2)", twenty.book(19, 2), 1);
        Due.sentence("Terms", "0 on the shelf of a branch (at first of its home)");
        Due.is("book(18, 0)", twenty.book(18, 0), 0);
        Due.is("book(18, 1)", twenty.book(18, 1), 0);
        Due.is("book(19, 0)", twenty.book(19, 0), 0);
        Due.is("book(19, 1)", twenty.book(19, 1), 1);
        Due.sentence("Terms", "It is recalled or not (not at first).");
        Due.is("book(19, 5)", twenty.book(19, 5), 0);
        Due.is("size(12)", twenty.size(12), 0);
        BranchCourier x = Due.everyState();
        Due.is("size(12) with a recalled book", x.size(12), 1);
        Due.load(x, HEAD + "book 0;".repeat(6));
        Due.is("size(12) behind another load", x.size(12), 0);
    }

    private static void requests() {
        Due.sentence("Terms", "A request has a book, a reader (0 to 99) and a branch.");
        BranchCourier x = Due.loaded(HEAD + "book 0;book 0;ask 1 0 1;ask 1 99 0;");
        Due.is("request(1, 0, 0)", x.request(1, 0, 0), 0);
        Due.is("request(1, 0, 1)", x.request(1, 0, 1), 1);
        Due.is("request(1, 1, 0)", x.request(1, 1, 0), 99);
        Due.is("request(1, 1, 1)", x.request(1, 1, 1), 0);
        Due.missing("request(0, 0, 0)", () -> x.request(0, 0, 0));
        Due.bad(HEAD + "book 0;ask 0 ^100 1;", 2);
        Due.illegal("ask(0, 100, 1)", () -> x.ask(0, 100, 1));
        Due.illegal("ask(0, -1, 1)", () -> x.ask(0, -1, 1));
        Due.is("ask(0, 0, 1)", x.ask(0, 0, 1), 0);
        Due.is("ask(0, 99, 1)", x.ask(0, 99, 1), 1);
        Due.sentence("Terms", "There are at most 40 requests.");
        Due.good(Due.fortyRequests(), 2);
        Due.bad(Due.fortyRequests() + "^ask 1 0 1;", 3);
        BranchCourier forty = Due.loaded(Due.fortyRequests());
        Due.is("ask(1, 0, 1) as the request 41", forty.ask(1, 0, 1), -2);
        forty.cancel(0, 39);
        Due.is("ask(1, 0, 1) as the request 40", forty.ask(1, 0, 1), 0);
        Due.is("size(4)", forty.size(4), 40);
        Due.sentence("Terms", "The requests for a book are in the order in which they came");
        x.ask(1, 50, 1);
        x.ask(0, 50, 1);
        x.ask(1, 49, 1);
        x.cancel(1, 99);
        x.ask(1, 99, 1);
        Due.is("format(1)", Due.format(x, 1), "1@0 0:1 50:1 49:1 99:1");
        Due.is("format(0)", Due.format(x, 0), "0@0 0:1 99:1 50:1");
        Due.sentence("Terms", "a reader has at most one for a book");
        Due.bad(HEAD + "book 0;book 0;ask 0 7 1;ask 1 7 1;ask 0 ^7 0;", 4);
        Due.is("ask(1, 99, 0)", x.ask(1, 99, 0), -3);
        Due.is("format(1)", Due.format(x, 1), "1@0 0:1 50:1 49:1 99:1");
    }

    private static void goals() {
        Due.sentence("Ways", "The goal of a book that is recalled is its home, if this is open.");
        BranchCourier x = Due.loaded("branches 4;van 1 1 0;book 0;ask 0 1 1;ask 0 2 2;");
        x.run(1);
        Due.is("goal ahead of recall", x.book(0, 3), 1);
        x.recall(0);
        Due.is("goal behind recall", x.book(0, 3), 0);
        Due.sentence("Ways", "(A recalled book whose home is closed has none.)");
        x.close(0);
        Due.is("goal with home closed, and open requests", x.book(0, 3), NONE);
        x.open(0);
        Due.is("goal with home opened", x.book(0, 3), 0);
        Due.sentence("Ways",
            "if it is not recalled, its goal is the branch of the first one of its requests whose branch is open");
        BranchCourier y = Due.loaded("branches 4;van 1 1 0;book 0;ask 0 1 1;ask 0 2 2;ask 0 3 0;");
        Due.is("goal of the first", y.book(0, 3), 1);
        y.close(1);
        Due.is("goal of the second", y.book(0, 3), 2);
        y.open(1);
        Due.is("goal of the first again", y.book(0, 3), 1);
        y.cancel(0, 1);
        Due.is("goal behind cancel", y.book(0, 3), 2);
        Due.sentence("Ways", "without such a request its home, if this is open");
        y.cancel(0, 3);
        y.close(2);
        Due.is("goal with its request's branch closed", y.book(0, 3), 0);
        y.cancel(0, 2);
        Due.is("goal without requests", y.book(0, 3), 0);
        Due.sentence("Ways", "Otherwise it has no goal.");
        y.close(0);
        Due.is("goal with home closed, without requests", y.book(0, 3), NONE);
        y.ask(0, 4, 2);
        Due.is("goal with home and its request's branch closed", y.book(0, 3), NONE);
        y.ask(0, 5, 3);
        Due.is("goal with another request", y.book(0, 3), 3);
    }

    private static void legs() {
        Due.sentence("Ways", "A van links all open branches of its route.");
        BranchCourier x = Due.loaded("branches 6;van 1 0 1 2 3;");
        for (int from = 0; from < 4; from++) {
            for (int to = 0; to < 4; to++) {
                Due.is("legs(" + from + ", " + to + ")", x.legs(from, to), from == to ? 0 : 1);
            }
        }
        x.close(1);
        Due.is("legs(0, 2) past a closed stop", x.legs(0, 2), 1);
        Due.is("legs(0, 1)", x.legs(0, 1), NONE);
        x.open(1);
        Due.sentence("Ways", "how many vans one has to take, at least, to come from the one to the other");
        BranchCourier chain = Due.loaded("branches 6;van 1 0 1;van 1 1 2;van 1 2 3;van 1 3 4;");
        for (int to = 0; to <= 4; to++) {
            Due.is("legs(0, " + to + ") along the chain", chain.legs(0, to), to);
            Due.is("legs(" + to + ", 0) along the chain", chain.legs(to, 0), to);
        }
        BranchCourier shorter = Due.loaded("branches 5;van 1 0 1;van 1 1 2;van 1 2 3;van 1 0 4 3;");
        Due.is("legs(0, 3) by the shorter way", shorter.legs(0, 3), 1);
        Due.is("legs(1, 3) by either way", shorter.legs(1, 3), 2);
        Due.sentence("Ways", "changing at open branches");
        chain.close(2);
        Due.is("legs(0, 4) with 2 closed", chain.legs(0, 4), NONE);
        Due.is("legs(1, 3) with 2 closed", chain.legs(1, 3), NONE);
        Due.is("legs(3, 4) with 2 closed", chain.legs(3, 4), 1);
        shorter.close(0);
        Due.is("legs(1, 3) with 0 closed", shorter.legs(1, 3), 2);
        shorter.close(2);
        Due.is("legs(1, 3) with 0 and 2 closed", shorter.legs(1, 3), NONE);
        Due.sentence("Ways", "0 from an open branch to itself");
        Due.is("legs(0, 0)", x.legs(0, 0), 0);
        Due.is("legs(5, 5) of a branch that is no stop", x.legs(5, 5), 0);
        Due.sentence("Ways", "There are none if there is no such way, or one of both is closed.");
        Due.is("legs(0, 5)", x.legs(0, 5), NONE);
        Due.is("legs(5, 0)", x.legs(5, 0), NONE);
        Due.is("legs(4, 5)", x.legs(4, 5), NONE);
        x.close(0);
        x.close(5);
        Due.is("legs(0, 1) from a closed branch", x.legs(0, 1), NONE);
        Due.is("legs(1, 0) to a closed branch", x.legs(1, 0), NONE);
        Due.is("legs(0, 0) of a closed branch", x.legs(0, 0), NONE);
        Due.is("legs(5, 5) of a closed branch", x.legs(5, 5), NONE);
        Due.is("legs(1, 2) of open branches", x.legs(1, 2), 1);
    }
}
