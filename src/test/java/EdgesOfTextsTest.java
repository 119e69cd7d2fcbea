/** The sentences of 'Input text' and of promises 1 to 4 that name edges, each with checks of its own. */
public final class EdgesOfTextsTest {
    private static final int NONE = BranchCourier.NONE;
    private static final String HEAD = "branches 2;van 5 0 1;";
    private static final String BLANKS = " ".repeat(20);

    public static void main(String[] args) {
        words();
        numbers();
        blanks();
        otherBytes();
        grammar();
        namesOfBranchesAndBooks();
        firstErrors();
        smallestCodes();
        notAllowed();
        earlyEnds();
        outOfRange();
        tooMany();
        repeated();
        newObject();
        feed();
        feedInOrder();
        load();
        loadAnswers();
        loadLengths();
        errorPosition();
        Due.end();
    }

    private static void words() {
        Due.sentence("Input text", "a word is a maximal run of the letters a to z");
        Due.good("branches2;van5 0 1;book1;hold5;ask0 7 1;", 1);
        Due.bad("^branch es 2;van 5 0 1;", 1);
        Due.bad("^branche 2;van 5 0 1;", 1);
        Due.bad("^branchess 2;van 5 0 1;", 1);
        Due.bad("^branchesvan 2;van 5 0 1;", 1);
        Due.bad("^branchesz 2;van 5 0 1;", 1);
        Due.bad("^aranches 2;van 5 0 1;", 1);
        Due.bad("^brancher 2;van 5 0 1;", 1);
        Due.bad("branches 2;^ban 5 0 1;", 1);
        Due.bad("branches 2;^vana 5 0 1;", 1);
        Due.bad("branches 2;^vanz 5 0 1;", 1);
        Due.bad("branches 2;^vaz 5 0 1;", 1);
        Due.bad("branches 2;^zvan 5 0 1;", 1);
        Due.bad("branches 2;van^` 5 0 1;", 1);
        Due.bad("branches 2;van^{ 5 0 1;", 1);
        Due.bad("branches 2;^Van 5 0 1;", 1);
        Due.bad("branches 2;^vAn 5 0 1;", 1);
    }

    private static void numbers() {
        Due.sentence("Input text", "a number is a maximal run of digits (leading zeros are allowed)");
        Due.good("branches 02;van 0005 00 01;book 001;hold 050;ask 00 099 01;", 1);
        Due.good("branches " + "0".repeat(700) + "2;van 5 0 1;", 0);
        Due.bad("branches ^" + "0".repeat(700) + "7;van 5 0 1;", 2);
        Due.bad("branches ^22;van 5 0 1;", 2);
        Due.bad("branches 2 ^2;van 5 0 1;", 1);
        Due.bad("branches 2^/;van 5 0 1;", 1);
        Due.bad("branches 2^:;van 5 0 1;", 1);
        Due.bad("branches ^/2;van 5 0 1;", 1);
        Due.bad("branches ^-2;van 5 0 1;", 1);
        Due.bad("branches ^+2;van 5 0 1;", 1);
        Due.bad("branches 2^.0;van 5 0 1;", 1);
    }

    private static void blanks() {
        Due.sentence("Input text", "The bytes 32 and 10 separate tokens and are otherwise ignored.");
        Due.good("  \n\n branches \n 2 \n;\nvan\n5\n0\n1\n;\n  ", 0);
        Due.good("branches\n2;van 5 0 1;", 0);
        Due.good("branches 2 ; van 5 0 1 ; book 0 ; hold 5 ; ask 0 1 1 ; ", 1);
        // What they separate is no longer one token.
        Due.bad("branches 2;van 5 0 1;^bo ok 0;", 1);
        Due.bad("branches 2;van 5 0 1;book 0;hold 5 ^0;", 1);
        Due.bad("branches 2;van 5 0 1;book 0;hold 5\n^0;", 1);
        Due.bad("branches 2;van 5 0 ^10;", 2);
        Due.good("branches 2;van 5 0 1\n0 1;", 0);
    }

    private static void otherBytes() {
        Due.sentence("Input text", "Every other byte is an invalid token.");
        for (int b = 0; b < 256; b++) {
            char c = (char) b;
            boolean blank = b == 32 || b == 10;
            if (blank) {
                Due.good(HEAD + c, 0);
                Due.good("branches" + c + "2;van 5 0 1;", 0);
            } else {
                // Behind a whole text no token is allowed.
                Due.bad(HEAD + "^" + c, 1);
            }
            boolean token = c == ';' || c >= 'a' && c <= 'z' || c >= '0' && c <= '9';
            if (!blank && !token) {
                Due.bad("branches^" + c + "2;van 5 0 1;", 1);
                Due.bad("branches 2^" + c + ";van 5 0 1;", 1);
            }
        }
    }

    private static void grammar() {
        Due.sentence("Input text",
            "text: 'branches' branches ';' van van* book* ['hold' HOLD ';'] ask*");
        Due.bad("^;", 1);
        Due.bad("^van 5 0 1;", 1);
        Due.bad("^2;van 5 0 1;", 1);
        Due.bad("branches 2;^;van 5 0 1;", 1);
        Due.bad("branches 2;^branches 2;van 5 0 1;", 1);
        Due.bad("branches 2;^book 0;", 1);
        Due.bad("branches 2;^hold 5;", 1);
        Due.bad("branches 2;^ask 0 1 1;", 1);
        Due.bad(HEAD + "^;", 1);
        Due.bad(HEAD + "^branches 2;", 1);
        Due.bad(HEAD + "^5;", 1);
        Due.good(HEAD + "hold 5;", 0);
        Due.bad(HEAD + "hold 5;^van 5 0 1;", 1);
        Due.bad(HEAD + "hold 5;^book 0;", 1);
        Due.bad(HEAD + "hold 5;^hold 5;", 1);
        Due.bad(HEAD + "book 0;^van 5 0 1;", 1);
        Due.good(HEAD + "book 0;ask 0 1 1;", 1);
        Due.bad(HEAD + "book 0;ask 0 1 1;^van 5 0 1;", 1);
        Due.bad(HEAD + "book 0;ask 0 1 1;^book 0;", 1);
        Due.bad(HEAD + "book 0;ask 0 1 1;^hold 5;", 1);
        Due.good(HEAD + "book 0;hold 7;ask 0 1 1;", 1);
        Due.is("size(6) of a text without hold", Due.loaded(HEAD).size(6), 10);
        Due.is("size(6) of a text with hold", Due.loaded(HEAD + "hold 7;").size(6), 7);
        Due.sentence("Input text", "van: 'van' room BRANCH BRANCH BRANCH* ';'");
        Due.bad("branches 2;van ^;", 1);
        Due.bad("branches 2;van 5 ^;", 1);
        Due.bad("branches 2;van 5 0 ^;", 1);
        Due.bad("branches 2;van 5 0 ^van", 1);
        Due.bad("branches 2;van 5 0 1 ^van 5 0 1;", 1);
        Due.bad("branches 2;van ^van 5 0 1;", 1);
        Due.sentence("Input text", "book: 'book' BRANCH ';'");
        Due.bad(HEAD + "book ^;", 1);
        Due.bad(HEAD + "book 0 ^1;", 1);
        Due.bad(HEAD + "book 0 ^book 0;", 1);
        Due.sentence("Input text", "ask: 'ask' BOOK reader BRANCH ';'");
        Due.bad(HEAD + "book 0;ask ^;", 1);
        Due.bad(HEAD + "book 0;ask 0 ^;", 1);
        Due.bad(HEAD + "book 0;ask 0 1 ^;", 1);
        Due.bad(HEAD + "book 0;ask 0 1 1 ^1;", 1);
        Due.bad(HEAD + "book 0;ask 0 1 1 ^ask 0 2 1;", 1);
    }

    private static void namesOfBranchesAndBooks() {
        Due.sentence("Input text", "A BRANCH is the number of a branch, a BOOK that of a book that was told.");
        Due.good("branches 3;van 5 0 2;book 2;ask 0 1 2;", 1);
        Due.bad("branches 2;van 5 0 ^2;", 2);
        Due.bad("branches 3;van 5 ^3 2;", 2);
        Due.bad("branches 3;van 5 0 2;book ^3;", 2);
        Due.bad("branches 3;van 5 0 2;book 2;ask 0 1 ^3;", 2);
        Due.bad("branches 3;van 5 0 2;book 2;ask ^1 1 2;", 2);
        Due.bad("branches 3;van 5 0 2;ask ^0 1 2;", 2);
        Due.good(HEAD + "book 0;".repeat(20) + "ask 19 1 1;", 20);
        Due.bad(HEAD + "book 0;".repeat(20) + "ask ^20 1 1;", 2);
        // A branch may be told that is a stop of no van.
        Due.good("branches 6;van 5 0 1;book 5;ask 0 1 4;", 1);
    }

    private static void firstErrors() {
        Due.sentence("Input text", "The first error along the text is reported, at the first byte of its token");
        Due.bad("branches ^7;van 10 0 0;", 2);
        Due.bad("branches 2;van 5 0 ^0;(", 4);
        Due.bad("branches 2;van 5 0 1 0^;van 10 0 1;", 4);
        Due.bad("branches 2;" + "van 5 0 1;".repeat(4) + "^van 10 0 1;", 3);
        Due.bad("branches ^100;van 5 0 1;", 2);
        Due.bad(HEAD + "^books 0;", 1);
        Due.bad(HEAD + "book 0;   ^\u00e9sk 0 1 1;", 1);
        Due.bad(HEAD + "book 0;ask 0 ^100 2;", 2);
    }

    private static void smallestCodes() {
        Due.sentence("Input text", "if several codes apply to one token, the smallest one");
        String eight = "branches 3;van 5 0 1 0 1 0 1 0 1 ";
        // 2 ahead of 3: the 9th BRANCH, which there is not; 3 ahead of 4: the 9th BRANCH, which is the one ahead.
        Due.bad(eight + "^3;", 2);
        Due.bad(eight + "^1;", 3);
        // 1 ahead of 3: keywords of too much that would not be allowed here in any number.
        Due.bad("branches 2;" + "van 5 0 1;".repeat(4) + "book 0;^van 5 0 1;", 1);
        Due.bad(HEAD + "book 0;".repeat(20) + "hold 5;^book 0;", 1);
        Due.bad(HEAD + "book 0;".repeat(20) + "ask 0 1 1;^book 0;", 1);
        // 1 ahead of 4: the ; behind a route of one stop, which is the first and the last one.
        Due.bad("branches 2;van 5 0^;", 1);
    }

    private static void notAllowed() {
        Due.sentence("Input text", "1 The token is invalid or not allowed here");
        Due.bad("branches 2^(;van 5 0 1;", 1);
        Due.bad("branches 2;van 5 0 1^<;", 1);
        Due.bad("branches ^two;van 5 0 1;", 1);
        Due.bad("branches ^;2;van 5 0 1;", 1);
        Due.bad("branches 2 ^van 5 0 1;", 1);
        Due.bad("branches 2;van 5 0 ^x;", 1);
        Due.bad(HEAD + "book 0;hold ^book;", 1);
        // A number that is out of range where none is allowed.
        Due.bad("branches 2 ^100;van 5 0 1;", 1);
        Due.bad(HEAD + "^100", 1);
    }

    /** Each beginning of a text that is no text itself: its last word is not one of the language, or it ends early. */
    private static void earlyEnds() {
        Due.sentence("Input text", "or the text ends too early (the position is then the length of the text)");
        String text = "branches 3;van 2 0 1 2;van 9 2 1;book 2;book 0;hold 50;ask 1 77 1;ask 0 7 2;";
        for (int length = 0; length < text.length(); length++) {
            String beginning = text.substring(0, length);
            if (beginning.endsWith(";") && beginning.contains("van")) {
                Due.check("load of '" + beginning + "'", Due.load(new BranchCourier(), beginning) >= 0, "has an error");
            } else {
                int cut = length;
                while (cut > 0 && Character.isLetter(text.charAt(cut - 1)) && Character.isLetter(text.charAt(length))) {
                    cut--;
                }
                Due.bad(text.substring(0, cut) + "^" + text.substring(cut, length), 1);
            }
        }
        Due.bad("^", 1);
        Due.bad(" \n ^", 1);
        Due.bad("branches 2;van 5 0 1 \n ^", 1);
        Due.bad(HEAD + "book ^", 1);
    }

    private static void outOfRange() {
        Due.sentence("Input text", "2 A number that is out of range, a BRANCH or BOOK that there is not.");
        // Each number of a text: what is ahead of it, what follows, its least and its greatest value.
        Object[][] places = {
            {"branches ", ";van 5 0 1;", 2, 6}, {"branches 2;van ", " 0 1;", 1, 9},
            {"branches 4;van 5 ", " 2 1;", 0, 3, 2}, {"branches 4;van 5 2 ", " 2 0;", 0, 3, 2},
            {"branches 4;van 5 2 1 ", ";", 0, 3, 1, 2}, {"branches 4;van 5 0 1;book ", ";", 0, 3},
            {HEAD + "hold ", ";", 1, 50}, {HEAD + "book 0;book 0;book 1;ask ", " 7 1;", 0, 2},
            {HEAD + "book 0;ask 0 ", " 1;", 0, 99}, {"branches 5;van 5 0 1;book 0;ask 0 7 ", ";", 0, 4}};
        for (Object[] place : places) {
            int least = (Integer) place[2];
            int most = (Integer) place[3];
            for (int value : new int[] {least, most}) {
                String text = place[0] + "" + value + place[1];
                Due.check("load of '" + text + "'", Due.load(new BranchCourier(), text) >= 0, "has an error");
            }
            long[] wrong = {least - 1, most + 1, 256L + least, (1L << 32) + least, (1L << 32) - 1, Long.MAX_VALUE};
            for (long value : wrong) {
                if (value >= 0) {
                    Due.bad(place[0] + "^" + value + place[1], 2);
                }
            }
            Due.bad(place[0] + "^1844674407370955161" + (6 + least) + place[1], 2);
            Due.bad(place[0] + "^" + "9".repeat(100) + place[1], 2);
        }
    }

    private static void tooMany() {
        Due.sentence("Input text", "3 The keyword of the 5th van, of the 21st book or of the 41st request");
        Due.good("branches 2;" + "van 5 0 1;".repeat(4), 0);
        Due.bad("branches 2;" + "van 5 0 1;".repeat(4) + "^van", 3);
        Due.bad("branches 2;" + "van 5 0 1;".repeat(4) + "^vans", 1);
        Due.good(HEAD + "book 0;".repeat(20), 20);
        Due.bad(HEAD + "book 0;".repeat(20) + "^book", 3);
        Due.bad(HEAD + "book 0;".repeat(20) + "^books", 1);
        Due.good(Due.fortyRequests(), 2);
        Due.bad(Due.fortyRequests() + "^ask", 3);
        Due.bad(Due.fortyRequests() + "^asked", 1);
        StringBuilder several = new StringBuilder(HEAD + "book 0;".repeat(20));
        for (int i = 0; i < 40; i++) {
            several.append("ask ").append(i / 2).append(" ").append(i % 2).append(" 0;");
        }
        Due.good(several.toString(), 20);
        Due.bad(several + "^ask 0 2 0;", 3);
        Due.sentence("Input text", "the 9th BRANCH of a van");
        Due.good("branches 3;van 5 0 1 0 1 0 1 0 1;", 0);
        Due.bad("branches 3;van 5 0 1 0 1 0 1 0 1 ^2;", 3);
        Due.bad("branches 3;van 5 0 1 0 1 0 1 0 1 ^2", 3);
        Due.good("branches 3;van 5 0 1;van 5 0 1 0 1 0 1 0 1;van 5 1 2;", 0);
        Due.bad("branches 3;van 5 0 1;van 5 0 1 0 1 0 1 0 1 ^2;", 3);
    }

    private static void repeated() {
        Due.sentence("Input text", "4 A BRANCH of a van that is the one ahead of it");
        Due.bad("branches 3;van 5 0 ^0;", 4);
        Due.bad("branches 3;van 5 0 1 ^1;", 4);
        Due.bad("branches 3;van 5 0 1 ^0001 2;", 4);
        Due.bad("branches 3;van 5 0 1 2 0 1 2 1 ^1;", 4);
        Due.good("branches 3;van 5 0 1;van 5 1 0;", 0);
        Due.sentence("Input text", "the ; behind a route whose last stop is its first one");
        Due.bad("branches 3;van 5 0 1 0^;", 4);
        Due.bad("branches 3;van 5 0 1 0  ^;", 4);
        Due.bad("branches 3;van 5 0 1 2 0 1 2 1 0^;", 4);
        Due.bad("branches 3;van 5 0 1;van 5 1 2 1^;", 4);
        Due.good("branches 3;van 5 0 1 0 1;van 5 1 0;", 0);
        Due.bad("branches 3;van 5 0 1 0^", 1);
        Due.sentence("Input text", "a reader who asked for that book already");
        Due.bad(HEAD + "book 0;ask 0 7 1;ask 0 ^7 1;", 4);
        Due.bad(HEAD + "book 0;ask 0 7 1;ask 0 8 1;ask 0 ^07 0;", 4);
        Due.bad(HEAD + "book 0;ask 0 0 1;ask 0 ^0", 4);
        Due.good(HEAD + "book 0;book 0;ask 0 7 1;ask 1 7 1;ask 0 8 1;", 2);
    }

    private static void newObject() {
        Due.sentence(1, "Creates a library as by the text \"branches 2;van 5 0 1;\"");
        BranchCourier x = new BranchCourier();
        Due.is("all of a new object", Due.told(x), Due.told(Due.loaded("branches 2;van 5 0 1;")));
        Due.is("size(5) and van(0, 2)", x.size(5) + x.van(0, 2), 0);
        Due.is("size(6)", x.size(6), 10);
        Due.sentence(1, "with an empty buffer");
        Due.illegal("load(1)", () -> new BranchCourier().load(1));
        Due.illegal("query(1)", () -> new BranchCourier().query(1));
        Due.is("the first feed", x.feed(0, 0, 0, 0, 0), 20);
    }

    private static void feed() {
        Due.sentence(2, "Returns the number of bytes in the buffer");
        BranchCourier x = new BranchCourier();
        Due.feed(x, HEAD + " ".repeat(800 - 20 - HEAD.length()));
        Due.is("the feed of the bytes 781 to 800", x.feed(538976288, 538976288, 538976288, 538976288, 538976288), 800);
        Due.sentence(2, "NONE if it would exceed 800, and then nothing is appended");
        Due.is("a feed beyond 800", x.feed(1, 2, 3, 4, 5), NONE);
        Due.is("another feed beyond 800", x.feed(0, 0, 0, 0, 0), NONE);
        Due.illegal("load(801)", () -> x.load(801));
        Due.is("load(800)", x.load(800), 0);
        Due.is("feed behind load", x.feed(0, 0, 0, 0, 0), 20);
    }

    private static void feedInOrder() {
        Due.sentence(2, "the four bytes of each parameter, the most significant byte first");
        // A byte that is no token at each of the 20 places, once as 33 and once as 255, the others blank.
        for (int place = 0; place < 20; place++) {
            for (int sign : new int[] {33, 255}) {
                int[] words = new int[5];
                java.util.Arrays.fill(words, 0x20202020);
                int shift = 24 - place % 4 * 8;
                words[place / 4] = words[place / 4] & ~(255 << shift) | sign << shift;
                BranchCourier x = new BranchCourier();
                x.feed(words[0], words[1], words[2], words[3], words[4]);
                Due.is("load(20) with " + sign + " at " + place, x.load(20), -11);
                Due.is("errorPosition()", x.errorPosition(), place);
            }
        }
        BranchCourier two = new BranchCourier();
        two.feed(0x6272616e, 0x63686573, 0x20323b76, 0x616e2035, 0x20302031);
        two.feed(0x3b626f6f, 0x6b20313b, 0x80000000, 0x7fffffff, 0xffffffff);
        Due.is("load(28) of two feeds", two.load(28), 1);
        Due.is("book(0, 2)", two.book(0, 2), 1);
    }

    private static void load() {
        Due.sentence(3, "Reads the first bytes of the buffer as a text");
        BranchCourier x = new BranchCourier();
        Due.feed(x, HEAD + "book 0;book 1;");
        Due.is("load of a part", x.load(HEAD.length() + 7), 1);
        Due.sentence(3, "which replaces everything (the time is 0, no branch is closed)");
        String text = "branches 4;van 3 1 0;book 1;book 3;ask 1 4 1;";
        String fresh = Due.told(Due.loaded(text));
        BranchCourier used = Due.everyState();
        used.setHold(33);
        Due.is("load", Due.load(used, text), 2);
        Due.is("size(5)", used.size(5), 0);
        Due.is("size(1)", used.size(1), 4);
        Due.is("size(6)", used.size(6), 10);
        Due.is("the library", Due.told(used), fresh);
        Due.is("what it forecasts", used.arrivesIn(1), Due.loaded(text).arrivesIn(1));
        loadsOneBehindAnother(text, fresh);
        Due.sentence(3, "the undo history and the snapshot are discarded");
        BranchCourier past = Due.everyState();
        past.saveSnapshot();
        Due.load(past, text);
        Due.is("undoCount()", past.undoCount(), 0);
        Due.is("undo()", past.undo(), NONE);
        Due.is("restoreSnapshot()", past.restoreSnapshot(), false);
        Due.is("the library", Due.told(past), fresh);
        Due.sentence(3, "The buffer is empty afterwards, also after an error.");
        Due.feed(x, HEAD + BLANKS);
        x.load(HEAD.length());
        Due.illegal("load(1)", () -> x.load(1));
        Due.is("feed behind load", x.feed(0, 0, 0, 0, 0), 20);
        Due.is("load with an error", x.load(1), -11);
        Due.illegal("load(1) behind an error", () -> x.load(1));
        Due.is("feed behind an error", x.feed(0, 0, 0, 0, 0), 20);
        Due.is("load(0)", x.load(0), -11);
        Due.is("feed behind load(0)", x.feed(0, 0, 0, 0, 0), 20);
    }

    /** Nothing of what earlier texts, good or bad, operations or forecasts left is seen behind a load. */
    private static void loadsOneBehindAnother(String text, String fresh) {
        BranchCourier x = Due.loaded("branches 6;" + "van 9 5 4 3 2 1 0 1 2;".repeat(4) + "book 5;".repeat(20)
            + "hold 50;ask 0 4 1;ask 19 4 1;");
        x.run(9);
        x.recall(19);
        x.bookIn(0, 0, 77);
        Due.is("a text with an error", Due.load(x, "branches 6;van 7 5 4 3;van 8 4 5;book 5;book 4;book 6;"), -12);
        Due.is("the second text", Due.load(x, "branches 3;van 1 2 1;van 2 0 1;book 2;book 2;book 0;"), 3);
        Due.is("stops of the second text", x.van(0, 1), 2);
        Due.is("where its vans stand", x.van(0, 2) + x.van(1, 2), 0);
        x.ask(1, 7, 1);
        x.run(3);
        Due.is("a held book is recalled", x.recall(1), 2);
        Due.is("a forecast of it", x.bookIn(1, 5, 0), 1);
        Due.is("the third text", Due.load(x, text), 2);
        Due.is("the library", Due.told(x), fresh);
        BranchCourier other = Due.loaded(text);
        Due.is("a forecast", x.bookIn(1, 7, 9), other.bookIn(1, 7, 9));
        Due.is("lose(0)", x.lose(0), 0);
    }

    private static void loadAnswers() {
        Due.sentence(3, "Returns the number of books");
        Due.good(HEAD, 0);
        Due.good(HEAD + "book 0;", 1);
        Due.good(HEAD + "book 0;".repeat(20), 20);
        Due.sentence(3, "-10 minus the error code if the text has an error"
            + " (then only the buffer and the error position change)");
        String[] texts = {"branches 6;van 9 5 4;van 8 3 2;book 1;hold 5;ask 0 0 0", "branches 5;van 9 4 3;hold 60;",
            "branches 6;" + "van 1 5 4;".repeat(4) + "van", "branches 6;van 9 5 4;book 5;ask 0 0 5;ask 0 0 5;"};
        int[] due = {-11, -12, -13, -14};
        for (int i = 0; i < texts.length; i++) {
            BranchCourier x = Due.everyState();
            x.saveSnapshot();
            x.setHold(7);
            int bytes = x.format(3);
            String before = Due.told(x);
            Due.is("load of '" + texts[i] + "'", Due.load(x, texts[i]), due[i]);
            Due.is("the library", Due.told(x), before);
            Due.is("the text of format", Due.formatted(x, bytes), "3>0r 4:3 7:3 8:1");
            Due.is("undoCount()", x.undoCount(), 8);
            x.undo();
            Due.is("size(6) behind undo", x.size(6), 9);
            x.setHold(8);
            Due.is("restoreSnapshot()", x.restoreSnapshot(), true);
            Due.is("size(6) of the snapshot", x.size(6), 9);
        }
    }

    private static void loadLengths() {
        Due.sentence(3, "length: number of bytes to read");
        BranchCourier x = new BranchCourier();
        Due.feed(x, HEAD.substring(0, 20));
        Due.is("load(19)", x.load(19), -11);
        Due.is("errorPosition()", x.errorPosition(), 19);
        Due.feed(x, HEAD.substring(0, 20));
        Due.is("load(20)", x.load(20), -11);
        Due.is("errorPosition()", x.errorPosition(), 20);
        Due.feed(x, "branches 2;van 5 0 1;");
        Due.is("load(21)", x.load(21), 0);
        Due.is("load(0) of an empty buffer", x.load(0), -11);
        Due.is("errorPosition()", x.errorPosition(), 0);
        Due.feed(x, HEAD);
        Due.is("load(0)", x.load(0), -11);
        Due.sentence(3,
            "Throws IllegalArgumentException if length is negative or greater than the number of bytes in the buffer"
            + " (nothing changes)");
        BranchCourier y = Due.everyState();
        Due.load(y, "branches 2 2");
        Due.feed(y, "branches 3;van 5 0 1;");
        for (int length : new int[] {-1, Integer.MIN_VALUE, 41, 800, 801, Integer.MAX_VALUE}) {
            int wrong = length;
            Due.illegal("load(" + length + ")", () -> y.load(wrong));
        }
        Due.is("errorPosition()", y.errorPosition(), 11);
        Due.is("undoCount()", y.undoCount(), 7);
        Due.is("size(3)", y.size(3), 6);
        Due.is("feed", y.feed(0x20202020, 0x20202020, 0x20202020, 0x20202020, 0x20202020), 60);
        Due.is("load of all that is there", y.load(60), 0);
        Due.is("size(0)", y.size(0), 3);
    }

    private static void errorPosition() {
        Due.sentence(4, "the position of the error of the most recent call of load or query that read the buffer");
        BranchCourier x = new BranchCourier();
        Due.load(x, "branches 9;");
        Due.is("behind load", x.errorPosition(), 9);
        Due.query(x, "many ;");
        Due.is("behind query", x.errorPosition(), 5);
        Due.illegal("load(1)", () -> x.load(1));
        Due.illegal("query(1)", () -> x.query(1));
        Due.illegal("load(-1)", () -> x.load(-1));
        Due.illegal("query(-1)", () -> x.query(-1));
        Due.is("behind calls that read nothing", x.errorPosition(), 5);
        x.run(1);
        x.saveSnapshot();
        x.undo();
        x.restoreSnapshot();
        x.feed(0, 0, 0, 0, 0);
        Due.is("behind other calls", x.errorPosition(), 5);
        x.load(1);
        Due.is("behind an error at the first byte", x.errorPosition(), 0);
        Due.sentence(4, "NONE if that call had no error, or there was no such call");
        Due.is("of a new object", new BranchCourier().errorPosition(), NONE);
        Due.query(x, "many 1 = 1");
        Due.is("behind a good query", x.errorPosition(), NONE);
        Due.load(x, "branches 9;");
        Due.load(x, HEAD);
        Due.is("behind a good load", x.errorPosition(), NONE);
    }
}
