/** Promises 1 to 4: a new object, feed, load, errorPosition. */
public final class P01to04Test {
    private static final String HEAD = "branches 2;van 5 0 1;";

    public static void main(String[] args) {
        newObject();
        feeding();
        lengths();
        goodTexts();
        branches();
        vans();
        books();
        requests();
        tokens();
        whatLoadReplaces();
        loadsOneBehindAnother();
        whatErrorsLeave();
        errorPositions();
        Due.end();
    }

    private static void newObject() {
        Due.promise(1, "a new object");
        BranchCourier x = new BranchCourier();
        int[] sizes = {2, 2, 1, 0, 0, 0, 10, 0, 0, 0, 0, 0, 0};
        for (int what = 0; what < sizes.length; what++) {
            Due.is("size(" + what + ")", x.size(what), sizes[what]);
        }
        int[] van = {5, 2, 0, 0, 0, 2};
        for (int what = 0; what < van.length; what++) {
            Due.is("van(0, " + what + ")", x.van(0, what), van[what]);
        }
        Due.is("stop(0, 0)", x.stop(0, 0), 0);
        Due.is("stop(0, 1)", x.stop(0, 1), 1);
        Due.is("legs(0, 1)", x.legs(0, 1), 1);
        Due.is("errorPosition()", x.errorPosition(), BranchCourier.NONE);
        Due.is("undoCount()", x.undoCount(), 0);
        Due.is("restoreSnapshot()", x.restoreSnapshot(), false);
        Due.is("formattedByte(0)", x.formattedByte(0), BranchCourier.NONE);
        Due.missing("book(0, 0)", () -> x.book(0, 0));
        Due.illegal("load(1) of an empty buffer", () -> x.load(1));
    }

    private static void feeding() {
        Due.promise(2, "feed");
        BranchCourier x = new BranchCourier();
        for (int i = 1; i <= 40; i++) {
            Due.is("feed " + i, x.feed(0x20202020, 0x20202020, 0x20202020, 0x20202020, 0x20202020), 20 * i);
        }
        Due.is("feed 41", x.feed(0, 0, 0, 0, 0), BranchCourier.NONE);
        Due.illegal("load(801)", () -> x.load(801));
        Due.is("load(800) of blanks", x.load(800), -11);
        Due.is("errorPosition()", x.errorPosition(), 800);
        Due.is("feed behind load", x.feed(0, 0, 0, 0, 0), 20);
        BranchCourier y = new BranchCourier();
        y.feed(0x6272616e, 0x63686573, 0x20323b76, 0x616e2039, 0x20302031);
        y.feed(0x3b626f6f, 0x6b20313b, 0x80FFE900, 0xFFFFFFFF, 0x80000000);
        Due.is("load of the bytes in their order", y.load(28), 1);
        Due.is("van(0, 0)", y.van(0, 0), 9);
        Due.is("book(0, 2)", y.book(0, 2), 1);
    }

    private static void lengths() {
        Due.promise(3, "the length of load");
        BranchCourier x = new BranchCourier();
        Due.feed(x, HEAD + "book 0;");
        Due.illegal("load(-1)", () -> x.load(-1));
        Due.illegal("load(MIN)", () -> x.load(Integer.MIN_VALUE));
        Due.illegal("load(MAX)", () -> x.load(Integer.MAX_VALUE));
        Due.illegal("load(41)", () -> x.load(41));
        Due.is("load of a part", x.load(HEAD.length()), 0);
        Due.illegal("load(1) behind load", () -> x.load(1));
        Due.is("load(0)", x.load(0), -11);
        Due.is("errorPosition()", x.errorPosition(), 0);
        Due.feed(x, "branches 1;");
        Due.is("load with an error", x.load(20), -12);
        Due.illegal("load(1) behind an error", () -> x.load(1));
    }

    private static String times(int n, String part) {
        return part.repeat(n);
    }

    private static void goodTexts() {
        Due.promise(3, "good texts");
        Due.good(HEAD, 0);
        Due.good("branches2;van5 0 1;", 0);
        Due.good("\n branches\n2 ; van 5\n0  1 ;\n ", 0);
        Due.good("branches 0000000000000000000000002;van 0009 00 01;hold 0050;", 0);
        Due.good("branches 6;van 1 5 0 5 4 3 2 1 0;", 0);
        Due.good(HEAD + "van 1 1 0;van 9 0 1;van 2 1 0;", 0);
        Due.good(HEAD + times(20, "book 1;"), 20);
        Due.good(HEAD + "book 0;book 1;hold 1;ask 0 0 0;ask 1 99 1;ask 1 0 0;", 2);
        Due.good(HEAD + "hold 50;", 0);
        StringBuilder asks = new StringBuilder(HEAD + "book 0;");
        for (int reader = 0; reader < 40; reader++) {
            asks.append("ask 0 ").append(reader).append(" 1;");
        }
        Due.good(asks.toString(), 1);
        BranchCourier x = Due.loaded(asks.toString());
        Due.is("size(4)", x.size(4), 40);
        Due.is("placeOf(0, 39)", x.placeOf(0, 39), 39);
    }

    private static void branches() {
        Due.promise(3, "branches");
        Due.bad("^", 1);
        Due.bad("  ^", 1);
        Due.bad("branches^", 1);
        Due.bad("branches ^;", 1);
        Due.bad("^branch 2;", 1);
        Due.bad("^branchess 2;", 1);
        Due.bad("^branchesz 2;", 1);
        Due.bad("^aranches 2;", 1);
        Due.bad("^branchesvan 2;", 1);
        Due.bad("^2;", 1);
        Due.bad("branches ^1;", 2);
        Due.bad("branches ^0;", 2);
        Due.bad("branches ^7;", 2);
        Due.bad("branches ^4294967298;", 2);
        Due.bad("branches ^18446744073709551618;", 2);
        Due.bad("branches ^99999999999999999999999999999999999999;", 2);
        Due.bad("branches ^-2;", 1);
        Due.bad("branches 2^", 1);
        Due.bad("branches 2 ^", 1);
        Due.bad("branches 2 ^3;", 1);
        Due.bad("branches 2;^", 1);
        Due.bad("branches 2;^;", 1);
        Due.bad("branches 2;^book 0;", 1);
        Due.bad("branches 2;^hold 5;", 1);
    }

    private static void vans() {
        Due.promise(3, "vans");
        Due.bad("branches 2;van ^0 0 1;", 2);
        Due.bad("branches 2;van ^10 0 1;", 2);
        Due.bad("branches 2;van ^;", 1);
        Due.bad("branches 2;van 5^;", 1);
        Due.bad("branches 2;van 5 0^;", 1);
        Due.bad("branches 2;van 5 0 1^", 1);
        Due.bad("branches 2;van 5 ^2 1;", 2);
        Due.bad("branches 2;van 5 0 ^2;", 2);
        Due.bad("branches 2;van 5 0 ^0;", 4);
        Due.bad("branches 2;van 5 0 1 ^1;", 4);
        Due.bad("branches 2;van 5 0 1 0^;", 4);
        Due.bad("branches 2;van 5 0 1 0^", 1);
        Due.bad("branches 2;van 5 0 1 0 ^book 0;", 1);
        Due.bad("branches 3;van 5 2 1 0 1 2^;", 4);
        Due.good("branches 2;van 5 0 1 0 1 0 1 0 1;", 0);
        Due.bad("branches 2;van 5 0 1 0 1 0 1 0 1 ^0;", 3);
        Due.bad("branches 2;van 5 0 1 0 1 0 1 0 1 ^1;", 3);
        Due.bad("branches 2;van 5 0 1 0 1 0 1 0 1 ^2;", 2);
        Due.bad("branches 2;van 5 0 1 0 1 0 1 0 1 ^van", 1);
        Due.bad("branches 3;van 5 0 1 0 1 0 1 2 0^;", 4);
        Due.bad("branches 2;" + times(4, "van 5 0 1;") + "^van 5 0 1;", 3);
        Due.bad("branches 2;" + times(4, "van 5 0 1;") + "^van", 3);
        Due.bad("branches 2;" + times(4, "van 5 0 1;") + "^vans", 1);
        Due.bad(HEAD + "book 0;^van 5 0 1;", 1);
        Due.bad("branches 2;" + times(4, "van 5 0 1;") + "book 0;^van 5 0 1;", 1);
    }

    private static void books() {
        Due.promise(3, "books and HOLD");
        Due.bad(HEAD + "book ^2;", 2);
        Due.bad(HEAD + "book ^;", 1);
        Due.bad(HEAD + "book 1^", 1);
        Due.bad(HEAD + "book 1 ^0;", 1);
        Due.bad(HEAD + times(20, "book 0;") + "^book 0;", 3);
        Due.bad(HEAD + times(20, "book 0;") + "^book", 3);
        Due.bad(HEAD + times(20, "book 0;") + "hold 5;^book 0;", 1);
        Due.bad(HEAD + "hold ^0;", 2);
        Due.bad(HEAD + "hold ^51;", 2);
        Due.bad(HEAD + "hold ^;", 1);
        Due.bad(HEAD + "hold 5^", 1);
        Due.bad(HEAD + "hold 5;^hold 5;", 1);
        Due.bad(HEAD + "hold 5;^book 0;", 1);
        Due.bad(HEAD + "book 0;ask 0 1 1;^hold 5;", 1);
        Due.bad(HEAD + "book 0;ask 0 1 1;^book 0;", 1);
    }

    private static void requests() {
        Due.promise(3, "requests");
        Due.bad(HEAD + "ask ^0 1 1;", 2);
        Due.bad(HEAD + "book 0;ask ^1 1 1;", 2);
        Due.bad(HEAD + "book 0;ask 0 ^100 1;", 2);
        Due.bad(HEAD + "book 0;ask 0 99 ^2;", 2);
        Due.bad(HEAD + "book 0;ask 0 99 ^;", 1);
        Due.bad(HEAD + "book 0;ask 0 ^;", 1);
        Due.bad(HEAD + "book 0;ask ^;", 1);
        Due.bad(HEAD + "book 0;ask 0 1 1^", 1);
        Due.bad(HEAD + "book 0;ask 0 1 1 ^1;", 1);
        Due.bad(HEAD + "book 0;book 0;ask 0 1 1;ask 1 1 1;ask 0 2 1;ask 0 ^1 0;", 4);
        StringBuilder asks = new StringBuilder(HEAD + "book 0;");
        for (int reader = 0; reader < 40; reader++) {
            asks.append("ask 0 ").append(reader).append(" 1;");
        }
        Due.bad(asks + "^ask 0 40 1;", 3);
        Due.bad(asks + "^ask", 3);
        Due.bad(asks + "^asks", 1);
        Due.bad(asks + "^;", 1);
    }

    private static void tokens() {
        Due.promise(3, "tokens");
        Due.bad("^Branches 2;", 1);
        Due.bad("^branChes 2;", 1);
        Due.bad("branches ^(2;", 1);
        Due.bad("branches 2^=;", 1);
        Due.bad("branches^\t2;", 1);
        Due.bad("branches^\r\n2;", 1);
        Due.bad("branches 2;^\u00e1van 5 0 1;", 1);
        Due.bad("branches 2;van 5 0 1^\u00b0;", 1);
        Due.bad(HEAD + "^\u0000", 1);
        Due.bad(HEAD + "^`", 1);
        Due.bad(HEAD + "^{", 1);
        Due.bad(HEAD + "^/", 1);
        Due.bad(HEAD + "^:", 1);
        Due.bad(HEAD + "^;", 1);
        Due.bad("branches 2;van 5^x", 1);
    }

    private static void whatLoadReplaces() {
        Due.promise(3, "what load replaces");
        BranchCourier x = Due.loaded("branches 3;van 1 0 1;book 0;book 1;hold 3;ask 0 1 1;");
        x.close(2);
        x.recall(0);
        x.run(5);
        x.saveSnapshot();
        x.recall(1);
        Due.is("load", Due.load(x, "branches 4;van 2 3 0;van 3 2 1;book 3;"), 1);
        int[] sizes = {4, 4, 2, 1, 0, 0, 10, 1, 0, 0, 0, 0, 0};
        for (int what = 0; what < sizes.length; what++) {
            Due.is("size(" + what + ")", x.size(what), sizes[what]);
        }
        Due.is("van(0, 2)", x.van(0, 2), 0);
        Due.is("van(1, 3)", x.van(1, 3), 2);
        Due.is("legs(0, 3)", x.legs(0, 3), 1);
        Due.is("legs(0, 1)", x.legs(0, 1), BranchCourier.NONE);
        Due.is("undoCount()", x.undoCount(), 0);
        Due.is("undo()", x.undo(), BranchCourier.NONE);
        Due.is("restoreSnapshot()", x.restoreSnapshot(), false);
        Due.is("format(0)", Due.format(x, 0), "0@3");
    }

    /** What earlier loads and forecasts left in rows that are used again must not be seen. */
    private static void loadsOneBehindAnother() {
        Due.promise(3, "loads one behind another");
        BranchCourier x = new BranchCourier();
        for (int i = 0; i < 4; i++) {
            String text = i % 2 == 0 ? "branches 3;van 4 0 1 2;van 2 1 2;book 0;book 2;hold 20;ask 0 3 1;ask 1 3 1;"
                : "branches 2;van 3 1 0;book 1;ask 0 4 0;";
            Due.is("load " + i, Due.load(x, text), i % 2 == 0 ? 2 : 1);
            Due.is("size(2)", x.size(2), i % 2 == 0 ? 2 : 1);
            Due.is("size(5)", x.size(5), 0);
            Due.is("size(6)", x.size(6), i % 2 == 0 ? 20 : 10);
            Due.is("size(4)", x.size(4), i % 2 == 0 ? 2 : 1);
            Due.is("size(12)", x.size(12), 0);
            Due.is("van(0, 0)", x.van(0, 0), i % 2 == 0 ? 4 : 3);
            Due.is("van(0, 1)", x.van(0, 1), i % 2 == 0 ? 3 : 2);
            Due.is("van(0, 2)", x.van(0, 2), 0);
            Due.is("van(0, 5)", x.van(0, 5), i % 2 == 0 ? 3 : 2);
            Due.is("size(1)", x.size(1), i % 2 == 0 ? 3 : 2);
            x.run(4);
            x.recall(0);
            x.close(0);
            x.bookIn(0, 0, 1);
            Due.is("size(12) behind recall", x.size(12), 1);
            Due.is("load with an error", Due.load(x, "branches 6;van 9 5 4 3 2 1 0 1 2;van 8 5 4;book 5;book 6;"), -12);
        }
    }

    private static void whatErrorsLeave() {
        Due.promise(3, "what a load with an error leaves");
        BranchCourier x = Due.loaded("branches 3;van 1 0 1;van 2 1 2;book 0;book 1;hold 3;ask 0 1 1;");
        x.close(2);
        x.run(2);
        x.saveSnapshot();
        x.run(2);
        String before = Due.format(x, 0);
        Due.is("load", Due.load(x, "branches 5;van 9 4 3;book 2;hold 7;ask 0 5 5;"), -12);
        Due.is("format(0)", Due.format(x, 0), before);
        int[] sizes = {3, 2, 2, 2, 1, 4, 3};
        for (int what = 0; what < sizes.length; what++) {
            Due.is("size(" + what + ")", x.size(what), sizes[what]);
        }
        Due.is("van(0, 0)", x.van(0, 0), 1);
        Due.is("legs(0, 2)", x.legs(0, 2), BranchCourier.NONE);
        Due.is("undo()", x.undo(), 2);
        Due.is("size(5)", x.size(5), 2);
        Due.is("restoreSnapshot()", x.restoreSnapshot(), true);
        Due.is("size(5) of the snapshot", x.size(5), 2);
    }

    private static void errorPositions() {
        Due.promise(4, "errorPosition");
        BranchCourier x = new BranchCourier();
        Due.load(x, "branches 9;");
        Due.is("behind an error of load", x.errorPosition(), 9);
        Due.illegal("load(1)", () -> x.load(1));
        Due.is("behind a load that read nothing", x.errorPosition(), 9);
        Due.query(x, "many 1 = x");
        Due.is("behind an error of query", x.errorPosition(), 9);
        Due.query(x, "many ;");
        Due.is("behind another error of query", x.errorPosition(), 5);
        Due.illegal("query(1)", () -> x.query(1));
        Due.is("behind a query that read nothing", x.errorPosition(), 5);
        Due.query(x, "many 1 = 1");
        Due.is("behind a good query", x.errorPosition(), BranchCourier.NONE);
        Due.load(x, "branches 9;");
        x.run(1);
        x.undo();
        Due.is("behind undo", x.errorPosition(), 9);
        Due.load(x, HEAD);
        Due.is("behind a good load", x.errorPosition(), BranchCourier.NONE);
    }
}
