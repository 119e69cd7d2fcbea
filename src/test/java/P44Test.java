/** Promise 44: queries. */
public final class P44Test {
    private static final int NONE = BranchCourier.NONE;
    private static final int HIDDEN = BranchCourier.HIDDEN;

    public static void main(String[] args) {
        properties();
        logic();
        nesting();
        texts();
        mistakes();
        lengths();
        whatQueriesLeave();
        withoutBooks();
        Due.end();
    }

    private static void many(String test, int due) {
        good("many " + test, due);
    }

    private static void first(String test, int due) {
        good("first " + test, due);
    }

    /** Each query has an object of its own, as an object has 512 calls. */
    private static void good(String query, int due) {
        BranchCourier x = Due.everyState();
        Due.is(query, Due.query(x, query), due);
        Due.is("errorPosition() of " + query, x.errorPosition(), NONE);
    }

    private static void properties() {
        Due.promise(44, "the properties of all books");
        String[] names = {"state", "place", "home", "goal", "queue", "recalled"};
        int[] numbers = {0, 1, 2, 3, 4, 5};
        for (int i = 0; i < names.length; i++) {
            for (int book = 0; book < 6; book++) {
                int value = Due.everyState().book(book, numbers[i]);
                value = value == NONE ? 99 : value;
                first("book = " + book + " and " + names[i] + " = " + value, book);
                many("book = " + book + " and " + names[i] + " > " + value, 0);
            }
        }
        many("place = 99", 2);
        many("place > 98", 2);
        many("place = 0", 1);
        many("place = 1", 2);
        many("goal = 99", 1);
        first("goal = 99", 5);
        many("recalled = 0", 5);
        first("recalled = 1", 3);
        first("state = 1", 3);
        many("state = 2", 2);
        first("state = 2", 1);
        first("state = 3", 0);
        first("state = 4", 4);
        first("state = 0", 5);
        many("queue > 1", 2);
        first("queue > 2", 3);
        many("book < 6", 6);
        many("book > 5", 0);
        first("book > 3", 4);
        first("home > 1", 4);
    }

    private static void logic() {
        Due.promise(44, "and, or, not");
        many("1 = 1", 6);
        many("1 = 2", 0);
        first("1 = 2", NONE);
        first("1 = 1", 0);
        many("0 < 9999", 6);
        many("9999 > 9999", 0);
        many("book < home", 1);
        many("home > book", 1);
        many("book = 0 or book = 1 and book = 2", 1);
        many("book = 1 and book = 2 or book = 0", 1);
        many("(book = 0 or book = 1) and book = 1", 1);
        many("book = 0 or book = 1 or book = 4", 3);
        many("book > 0 and book < 5 and not book = 3", 3);
        many("not book = 3", 5);
        many("not book = 3 and book = 3", 0);
        many("not book = 3 or book = 3", 6);
        many("not (book = 3 or book = 4)", 4);
        many("not not book = 3", 1);
        many("not book = 3 and not book = 4", 4);
        first("not book < 2 and not book = 2", 3);
        many("((book = 3))", 1);
        many("2 = book", 1);
    }

    private static void nesting() {
        Due.promise(44, "not and ( open at the same time");
        many("not not not not not not book = 3", 1);
        many("((((((book = 3))))))", 1);
        many("not(not(not(book = 3)))", 5);
        bad("many not not not not not not ^not book = 3", 3);
        bad("many not not not not not not ^(book = 3)", 3);
        bad("many ((((((^(book = 3)))))))", 3);
        bad("many ((((((^not book = 3))))))", 3);
        bad("many not(not(not(^not book = 3)))", 3);
        bad("many ((((((^(", 3);
        many("not not not not not not book = 3 and not not not not not not book = 3", 1);
        many("((((((book = 3)))))) or ((((((book = 4))))))", 2);
        many("(((((not book = 3 and not book = 4)))))", 4);
        many("((((((1 = 1)))))) and not (((((1 = 2)))))", 6);
        bad("many (((((1 = 1) and ((^(1 = 1", 3);
    }

    private static void bad(String marked, int code) {
        Due.badQuery(Due.everyState(), marked, code);
    }

    private static void texts() {
        Due.promise(44, "tokens of queries");
        good("many(book=3)or book<2", 3);
        good("\n many\nbook\n<\n00000000000000000000003\n", 3);
        good("many 3<book", 2);
        good("many 3=3and 4=4or 5=6", 6);
    }

    private static void mistakes() {
        Due.promise(44, "errors of queries");
        bad("^", 1);
        bad("   ^", 1);
        bad("^book = 1", 1);
        bad("^manybook = 1", 1);
        bad("^Many book = 1", 1);
        bad("many^", 1);
        bad("many ^many 1 = 1", 1);
        bad("many book^", 1);
        bad("many book ^1", 1);
        bad("many book =^", 1);
        bad("many book = ^= 1", 1);
        bad("many book = 1 ^1", 1);
        bad("many book = 1 ^= 1", 1);
        bad("many book = 1 ^;", 1);
        bad("many ^; = 1", 1);
        bad("many book ^; 1", 1);
        bad("many book = 1^)", 1);
        bad("many (book = 1^", 1);
        bad("many (book = 1 ^;", 1);
        bad("many (^)", 1);
        bad("many book = 1 and^", 1);
        bad("many book = 1 and ^or book = 1", 1);
        bad("many ^and book = 1", 1);
        bad("many not^", 1);
        bad("many book = ^not book = 1", 1);
        bad("many book ^not = 1", 1);
        bad("many book = 1 ^not book = 2", 1);
        bad("many book = 1 ^(book = 2)", 1);
        bad("many ^time = 1", 1);
        bad("many ^books = 1", 1);
        bad("many book = ^limit", 1);
        bad("many book ^! 1", 1);
        bad("many book = ^\u00e9", 1);
        bad("many ^Book = 1", 1);
        bad("many ^10000 = 1", 2);
        bad("many book = ^10000", 2);
        bad("first 9999 < ^99999999999999999999999", 2);
        bad("first 1 = ^4294967296", 2);
        bad("many book ^10000", 1);
        bad("many book = 1 ^10000", 1);
        bad("many 1 = 2 and ^10000 = 1", 2);
        bad("many 1 = 1 or ^x = 1", 1);
    }

    private static void lengths() {
        Due.promise(44, "the length of a query");
        BranchCourier x = Due.everyState();
        Due.illegal("query(1) of an empty buffer", () -> x.query(1));
        Due.feed(x, "many book = 1" + " ".repeat(207));
        Due.illegal("query(-1)", () -> x.query(-1));
        Due.illegal("query(201)", () -> x.query(201));
        Due.illegal("query(221)", () -> x.query(221));
        Due.illegal("query(MIN)", () -> x.query(Integer.MIN_VALUE));
        Due.illegal("query(MAX)", () -> x.query(Integer.MAX_VALUE));
        Due.is("query(200)", x.query(200), 1);
        Due.illegal("query(1) behind a query", () -> x.query(1));
        Due.feed(x, "many book = 11");
        Due.is("query of a part", x.query(13), 1);
        Due.is("query(0)", x.query(0), HIDDEN - 1);
        Due.is("errorPosition()", x.errorPosition(), 0);
        Due.feed(x, "many ;");
        Due.is("query with an error", x.query(6), HIDDEN - 1);
        Due.illegal("query(1) behind an error", () -> x.query(1));
        Due.feed(x, "many 1 = 1 ".repeat(10) + "many");
        Due.is("query(20) of more bytes", x.query(20), HIDDEN - 1);
        Due.is("errorPosition()", x.errorPosition(), 11);
        Due.is("constant HIDDEN", HIDDEN, -1000000000);
        Due.is("constant NONE", NONE, -1);
    }

    private static void whatQueriesLeave() {
        Due.promise(44, "what queries leave");
        BranchCourier x = Due.everyState();
        int count = x.undoCount();
        String before = Due.format(x, 2);
        Due.query(x, "many book = 1");
        Due.query(x, "many book 1");
        Due.is("undoCount()", x.undoCount(), count);
        Due.is("the text of format", Due.formatted(x, before.length()), before);
        Due.is("size(5)", x.size(5), 4);
    }

    private static void withoutBooks() {
        Due.promise(44, "queries without books, and of 20");
        BranchCourier x = new BranchCourier();
        Due.is("many", Due.query(x, "many not 1 = 2"), 0);
        Due.is("first", Due.query(x, "first not 1 = 2"), NONE);
        Due.is("an error", Due.query(x, "first not 1 = x"), HIDDEN - 1);
        BranchCourier y = Due.loaded("branches 2;van 1 0 1;" + "book 1;".repeat(20));
        Due.is("many of 20", Due.query(y, "many not 1 = 2"), 20);
        Due.is("first of 20", Due.query(y, "first book > 18"), 19);
    }
}
