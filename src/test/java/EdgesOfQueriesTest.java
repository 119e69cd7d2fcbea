/** The sentences of 'Queries' and of promise 44 that name edges, each with checks of its own. */
public final class EdgesOfQueriesTest {
    private static final int NONE = BranchCourier.NONE;
    private static final int HIDDEN = BranchCourier.HIDDEN;

    public static void main(String[] args) {
        hidden();
        lengthOfTheText();
        signs();
        query();
        conjunctions();
        comparisons();
        numbers();
        properties();
        codes();
        openAtTheSameTime();
        untilTheEndOfItsFactor();
        firstBytes();
        answers();
        errors();
        lengths();
        Due.end();
    }

    private static void is(String query, int due) {
        BranchCourier x = Due.everyState();
        Due.is(query, Due.query(x, query), due);
        Due.is("errorPosition() of " + query, x.errorPosition(), NONE);
    }

    private static void bad(String marked, int code) {
        Due.badQuery(Due.everyState(), marked, code);
    }

    private static void hidden() {
        Due.sentence("Operations", "HIDDEN = -1000000000: Error results of query start here.");
        Due.is("HIDDEN", HIDDEN, -1000000000);
        Due.is("NONE", NONE, -1);
        Due.is("query of nothing", new BranchCourier().query(0), -1000000001);
    }

    private static void lengthOfTheText() {
        Due.sentence("Queries", "The text of a query has at most 200 bytes");
        String start = "many 1 = 1";
        String end = "and book = 5";
        BranchCourier x = Due.everyState();
        Due.is("a query of 200 bytes", Due.query(x, start + " ".repeat(200 - start.length() - end.length()) + end), 1);
        Due.badQuery(x, start + " and" + " ".repeat(200 - start.length() - 4) + "^", 1);
        Due.badQuery(x, start + " ".repeat(199 - start.length()) + "^;", 1);
        Due.feed(x, start + " ".repeat(201 - start.length()));
        Due.illegal("a query of 201 bytes", () -> x.query(201));
        Due.is("its first 200 bytes", x.query(200), 6);
    }

    private static void signs() {
        Due.sentence("Queries", "each of the bytes ( ) < = > is a token, too");
        is("many(book<2)and(book>0)or(book=5)", 2);
        is("many((book<2))", 2);
        is("many 1=1and 2>1", 6);
        bad("many 1 =^= 1", 1);
        bad("many 1 <^> 2", 1);
        bad("many 1 >^= 1", 1);
        // Other bytes are no tokens, and ; is one that is not allowed anywhere.
        for (int b = 0; b < 256; b++) {
            char c = (char) b;
            boolean known = "()<=> \n".indexOf(c) >= 0 || c >= 'a' && c <= 'z' || c >= '0' && c <= '9';
            if (!known) {
                BranchCourier x = new BranchCourier();
                Due.badQuery(x, "many 1 ^" + c + " 1", 1);
                Due.badQuery(x, "many 1 = 1^" + c, 1);
            }
        }
        is("\nmany\n1\n=\n1\n", 6);
    }

    private static void query() {
        Due.sentence("Queries", "query: ('many' | 'first') test");
        is("many book > 3", 2);
        is("first book > 3", 4);
        bad("^", 1);
        bad("  ^", 1);
        bad("^book > 3", 1);
        bad("^some book > 3", 1);
        bad("^Many book > 3", 1);
        bad("^manyfirst book > 3", 1);
        bad("many ^first book > 3", 1);
        bad("many^", 1);
        bad("first^", 1);
        bad("many book > 3 ^many book > 3", 1);
    }

    private static void conjunctions() {
        Due.sentence("Queries", "test: conjunction ('or' conjunction)*. conjunction: factor ('and' factor)*.");
        is("many book = 0 or book = 1 and book = 2", 1);
        is("many book = 1 and book = 2 or book = 0", 1);
        is("many (book = 0 or book = 1) and book = 1", 1);
        is("many book = 0 or book = 1 or book = 2 or book = 5", 4);
        is("many book > 0 and book < 5 and book > 2 and book < 4", 1);
        bad("many 1 = 1 or^", 1);
        bad("many 1 = 1 and^", 1);
        bad("many 1 = 1 or ^or 1 = 1", 1);
        bad("many 1 = 1 and ^or 1 = 1", 1);
        bad("many ^or 1 = 1", 1);
        bad("many 1 = 1 ^1 = 1", 1);
        Due.sentence("Queries", "factor: 'not' factor | '(' test ')' | value ('<' | '=' | '>') value.");
        is("many not book = 3", 5);
        is("many not not book = 3", 1);
        is("many not book = 3 and book = 3", 0);
        is("many not book = 3 or book = 3", 6);
        is("many not (book = 3 or book = 4)", 4);
        is("many ((book = 3))", 1);
        bad("many not^", 1);
        bad("many not ^and 1 = 1", 1);
        bad("many (^)", 1);
        bad("many (1 = 1^", 1);
        bad("many (1 = 1 ^(", 1);
        bad("many 1 = 1^)", 1);
        bad("many (1 = 1)^)", 1);
        bad("many (^many 1 = 1)", 1);
        bad("many 1 ^not = 1", 1);
        bad("many 1 = ^not 1 = 1", 1);
        bad("many 1 = ^(1)", 1);
    }

    private static void comparisons() {
        Due.sentence("Queries", "value ('<' | '=' | '>') value");
        is("many 2 < 2", 0);
        is("many 1 < 2", 6);
        is("many 2 < 1", 0);
        is("many 2 = 2", 6);
        is("many 1 = 2", 0);
        is("many 2 > 2", 0);
        is("many 2 > 1", 6);
        is("many 1 > 2", 0);
        is("first book > 4", 5);
        is("first 4 < book", 5);
        is("many book = home", 0);
        is("many home < book", 5);
        bad("many 1^", 1);
        bad("many 1 ^1", 1);
        bad("many 1 ^and 1 = 1", 1);
        bad("many 1 =^", 1);
        bad("many ^= 1", 1);
        bad("many 1 = 1 ^= 1", 1);
    }

    private static void numbers() {
        Due.sentence("Queries", "value: a number (0 to 9999)");
        is("many 0 < 9999", 6);
        is("many 0 = 0", 6);
        is("many 9999 = 9999", 6);
        is("many 9998 < 9999", 6);
        is("many 000000000000000000000000009999 > 9998", 6);
        bad("many ^10000 = 1", 2);
        bad("many 1 = ^10000", 2);
        bad("many 1 = ^4294967297", 2);
        bad("many 1 = ^18446744073709551617", 2);
        bad("many 1 = ^" + "9".repeat(100), 2);
        bad("many 1 = ^-1", 1);
    }

    private static void properties() {
        Due.sentence("Queries", "'book' (its number)");
        is("first book = 0", 0);
        is("first book = 5", 5);
        is("many book = 6", 0);
        Due.sentence("Queries", "'state'");
        int[] states = {3, 2, 2, 1, 4, 0};
        for (int book = 0; book < states.length; book++) {
            is("many state = " + states[book] + " and book = " + book, 1);
        }
        Due.sentence("Queries", "'place' (as book tells it: 99 for NONE)");
        int[] places = {99, 1, 1, 0, 99, 2};
        for (int book = 0; book < places.length; book++) {
            is("many place = " + places[book] + " and book = " + book, 1);
        }
        is("many place > 98 and place < 100", 2);
        Due.sentence("Queries", "'home'");
        int[] homes = {1, 0, 1, 0, 3, 2};
        for (int book = 0; book < homes.length; book++) {
            is("many home = " + homes[book] + " and book = " + book, 1);
        }
        Due.sentence("Queries", "'goal' (99 without one)");
        int[] goals = {1, 1, 1, 0, 1, 99};
        for (int book = 0; book < goals.length; book++) {
            is("many goal = " + goals[book] + " and book = " + book, 1);
        }
        is("many goal > 98 and goal < 100", 1);
        Due.sentence("Queries", "'queue' (how many requests there are for it)");
        int[] queues = {0, 1, 2, 3, 1, 0};
        for (int book = 0; book < queues.length; book++) {
            is("many queue = " + queues[book] + " and book = " + book, 1);
        }
        BranchCourier forty = Due.loaded(Due.fortyRequests());
        Due.is("first queue = 40", Due.query(forty, "first queue = 40"), 0);
        Due.sentence("Queries", "'recalled' (1 or 0)");
        is("many recalled = 1", 1);
        is("first recalled = 1", 3);
        is("many recalled = 0", 5);
        Due.sentence("Queries", "or one of these properties of a book");
        String[] others = {"time", "books", "boo", "reader", "limit", "legs", "van", "not", "and", "many", "recal"};
        for (String other : others) {
            bad("many 1 = ^" + other, 1);
            if (!other.equals("not")) {
                bad("many ^" + other + " = 1", 1);
            }
        }
        bad("many ^State = 1", 1);
        bad("many ^hOme = 1", 1);
    }

    private static void codes() {
        Due.sentence("Queries", "Error codes are 1 and 2 as above");
        bad("many ^x = 10000", 1);
        bad("many ^10000 = x", 2);
        bad("many 1 = 1 ^10000", 1);
        bad("many 1 ^10000", 1);
        bad("many 1 = 1 or ^10000 = 1", 2);
        bad("many 1 = 2 and ^10000 = 1", 2);
        bad("many 1 = 1 and  ^", 1);
    }

    private static void openAtTheSameTime() {
        Due.sentence("Queries", "3 for a 'not' or '(' that would be the seventh one open at the same time");
        String[] six =
            {"((((((", "not not not not not not ", "(((((not ", "not((((( ", "not(not(not(", "(not(not(not "};
        String[] ends = {"))))))", "", ")))))", ")))))", ")))", ")))"};
        int[] due = {1, 1, 5, 5, 5, 5};
        for (int i = 0; i < six.length; i++) {
            is("many " + six[i] + "book = 3" + ends[i], due[i]);
            bad("many " + six[i] + "^not book = 3" + ends[i], 3);
            bad("many " + six[i] + "^(book = 3)" + ends[i], 3);
            bad("many " + six[i] + "^(", 3);
            bad("many " + six[i] + "book ^(", 1);
        }
        bad("many ((((((^((", 3);
    }

    private static void untilTheEndOfItsFactor() {
        Due.sentence("Queries", "A 'not' is open until the end of its factor.");
        // Behind its factor six others may be open.
        is("many not book = 3 and ((((((1 = 1))))))", 5);
        is("many not (book = 3) and not not not not not not 1 = 1", 5);
        is("many not not not not not not book = 3 or not not not not not not book = 4", 2);
        is("many (not book = 3 and (((((book > 0))))))", 4);
        is("many ((((((book = 3)))))) or ((((((book = 4))))))", 2);
        // Inside its factor it stays open, through parentheses too.
        bad("many not (((((^(book = 3))))))", 3);
        bad("many not (1 = 1 and ((((^((book = 3))))))", 3);
        bad("many not (not 1 = 1 and ((((^((book = 3))))))", 3);
        is("many not (1 = 1 and ((((book = 3)))))", 5);
        bad("many (not 1 = 1 and (((((^(1 = 1)))))))", 3);
        bad("many not not not not not not 1 = 1 and not not not not not not ^not 1 = 1", 3);
    }

    private static void firstBytes() {
        Due.sentence(44, "Reads the first bytes of the buffer as a query");
        BranchCourier x = Due.everyState();
        Due.feed(x, "many book = 11");
        Due.is("query(13)", x.query(13), 1);
        Due.feed(x, "many book = 11");
        Due.is("query(14)", x.query(14), 0);
        Due.feed(x, "many 1 = 1" + " ".repeat(600) + ";");
        Due.is("query(200) of more bytes", x.query(200), 6);
        Due.sentence(44, "The buffer is empty afterwards, also after an error.");
        Due.illegal("query(1) behind a query", () -> x.query(1));
        Due.is("feed behind a query", x.feed(0, 0, 0, 0, 0), 20);
        Due.is("query with an error", x.query(1), HIDDEN - 1);
        Due.illegal("query(1) behind an error", () -> x.query(1));
        Due.is("feed behind an error", x.feed(0, 0, 0, 0, 0), 20);
        Due.is("query(0)", x.query(0), HIDDEN - 1);
        Due.is("feed behind query(0)", x.feed(0, 0, 0, 0, 0), 20);
    }

    private static void answers() {
        Due.sentence(44, "evaluates it for every book in ascending order");
        is("first 1 = 1", 0);
        is("first not book < 2 and not book = 2", 3);
        BranchCourier twenty = Due.loaded("branches 2;van 1 0 1;" + "book 1;".repeat(20));
        Due.is("first of 20", Due.query(twenty, "first book > 18"), 19);
        Due.sentence(44, "Returns for 'many' the number of books for which the test holds");
        Due.is("many of 20", Due.query(twenty, "many not 1 = 2"), 20);
        Due.is("many of none", Due.query(twenty, "many 1 = 2"), 0);
        Due.is("many without books", Due.query(new BranchCourier(), "many not 1 = 2"), 0);
        Due.sentence(44, "for 'first' the smallest such book, or NONE");
        Due.is("first of none", Due.query(twenty, "first book = 20"), NONE);
        Due.is("first without books", Due.query(new BranchCourier(), "first not 1 = 2"), NONE);
        Due.is("first of several", Due.query(twenty, "first book > 0"), 1);
    }

    private static void errors() {
        Due.sentence(44, "HIDDEN minus the error code if the text has an error");
        BranchCourier x = Due.everyState();
        Due.is("code 1", Due.query(x, "many x"), -1000000001);
        Due.is("code 2", Due.query(x, "many 10000"), -1000000002);
        Due.is("code 3", Due.query(x, "many((((((("), -1000000003);
        Due.is("code 1 for first", Due.query(x, "first x"), -1000000001);
        // An error is told also where there are no books, or no book would need the value.
        BranchCourier none = new BranchCourier();
        Due.is("code 1 without books", Due.query(none, "many 1 = 2 and x = 1"), -1000000001);
        Due.is("code 2 without books", Due.query(none, "first 1 = 10000"), -1000000002);
        Due.is("code 3 without books", Due.query(none, "first ((((((("), -1000000003);
        // Whether a query succeeds or not, only the buffer and the error position change.
        BranchCourier same = Due.everyState();
        String before = Due.told(same);
        Due.query(same, "many state = 0");
        Due.query(same, "many state 0");
        Due.is("the library", Due.told(same), before);
        Due.is("undoCount()", same.undoCount(), 7);
    }

    private static void lengths() {
        Due.sentence(44, "length: number of bytes to read, at most 200");
        BranchCourier x = Due.everyState();
        Due.feed(x, "many book < 3" + " ".repeat(207));
        Due.illegal("query(201)", () -> x.query(201));
        Due.is("query(200)", x.query(200), 3);
        Due.sentence(44, "Throws IllegalArgumentException if length is negative, greater than 200,"
            + " or greater than the number of bytes in the buffer (nothing changes)");
        Due.illegal("query(1) of an empty buffer", () -> x.query(1));
        Due.query(x, "many 1 1");
        Due.feed(x, "many book < 4");
        for (int wrong : new int[] {-1, Integer.MIN_VALUE, 21, 200, 201, Integer.MAX_VALUE}) {
            Due.illegal("query(" + wrong + ") of 20 bytes", () -> x.query(wrong));
        }
        Due.is("errorPosition()", x.errorPosition(), 7);
        Due.is("query(20)", x.query(20), 4);
        Due.feed(x, "many book < 5" + " ".repeat(787));
        Due.illegal("query(800) of 800 bytes", () -> x.query(800));
        Due.is("feed of a full buffer", x.feed(0, 0, 0, 0, 0), NONE);
        Due.is("query(13)", x.query(13), 5);
    }
}
