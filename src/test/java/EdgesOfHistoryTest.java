/** The sentences of promises 38 to 43 (format, undoing, snapshots) that name edges, each with checks of its own. */
public final class EdgesOfHistoryTest {
    private static final int NONE = BranchCourier.NONE;

    public static void main(String[] args) {
        format();
        formatNumbers();
        formattedByte();
        undoCount();
        undo();
        undoEach();
        saveSnapshot();
        restoreSnapshot();
        Due.end();
    }

    private static void format() {
        Due.sentence(38, "'@' and the branch on a shelf");
        Due.is("format(5)", Due.format(Due.everyState(), 5), "5@2");
        Due.sentence(38, "'>' and the van in a van");
        BranchCourier van = Due.loaded("branches 3;van 1 0 1;van 1 1 2;book 2;ask 0 1 1;");
        van.run(1);
        Due.is("format(0) in van 1", Due.format(van, 0), "0>1 1:1");
        Due.sentence(38, "'!' and the branch if it is held");
        Due.is("format(2)", Due.format(Due.everyState(), 2), "2!1 5:1 6:2");
        Due.sentence(38, "'-' and the reader with a reader");
        Due.is("format(0)", Due.format(Due.everyState(), 0), "0-4");
        Due.sentence(38, "'?' if it is lost");
        Due.is("format(4)", Due.format(Due.everyState(), 4), "4? 4:1");
        Due.sentence(38, "then 'r' if it is recalled");
        BranchCourier x = Due.everyState();
        Due.is("in a van", Due.format(x, 3), "3>0r 4:3 7:3 8:1");
        x.recall(0);
        Due.is("with a reader", Due.format(x, 0), "0-4r");
        x.recall(1);
        Due.is("on a shelf", Due.format(x, 1), "1@1r 4:1");
        x.recall(4);
        Due.is("lost", Due.format(x, 4), "4?r 4:1");
        Due.sentence(38, "then, for each request, ' ', the reader, ':' and the branch");
        x.ask(5, 0, 0);
        x.ask(5, 99, 3);
        Due.is("format(5)", Due.format(x, 5), "5@2 0:0 99:3");
        x.cancel(5, 0);
        x.cancel(5, 99);
        Due.is("without requests", Due.format(x, 5), "5@2");
        Due.sentence(38, "Throws NoSuchElementException if there is no such book");
        Due.counted("format", x::format, 6);
        Due.missing("format(0) without books", () -> new BranchCourier().format(0));
    }

    private static void formatNumbers() {
        Due.sentence(38, "Numbers have no leading zeros.");
        BranchCourier x = Due.loaded("branches 2;van 1 0 1;" + "book 0;".repeat(20)
            + "ask 9 0 0;ask 9 9 1;ask 9 10 1;ask 9 90 0;ask 9 99 1;");
        Due.is("format(9)", Due.format(x, 9), "9@0 0:0 9:1 10:1 90:0 99:1");
        Due.is("format(0)", Due.format(x, 0), "0@0");
        Due.is("format(10)", Due.format(x, 10), "10@0");
        Due.is("format(19)", Due.format(x, 19), "19@0");
        x.run(1);
        x.take(9, 0);
        Due.is("with reader 0", Due.format(x, 9), "9-0 9:1 10:1 90:0 99:1");
        BranchCourier ten = Due.loaded("branches 2;van 1 0 1;book 0;ask 0 10 0;");
        ten.run(1);
        ten.take(0, 10);
        Due.is("with reader 10", Due.format(ten, 0), "0-10");
        Due.sentence(38, "Returns the number of bytes of the text.");
        Due.is("the shortest text", x.format(0), 3);
        StringBuilder text = new StringBuilder("branches 6;van 1 0 5;" + "book 0;".repeat(20));
        StringBuilder due = new StringBuilder("19@0");
        for (int reader = 60; reader < 100; reader++) {
            text.append("ask 19 ").append(reader).append(" 5;");
            due.append(" ").append(reader).append(":5");
        }
        BranchCourier longest = Due.loaded(text.toString());
        Due.is("a text of 40 requests", longest.format(19), 204);
        Due.is("its bytes", Due.formatted(longest, 204), due.toString());
        Due.is("its last byte", longest.formattedByte(203), '5');
        Due.is("behind its last byte", longest.formattedByte(204), NONE);
    }

    private static void formattedByte() {
        Due.sentence(39, "NONE if index is out of range or there was no such call");
        BranchCourier x = Due.everyState();
        for (int index : new int[] {0, -1, 1, 255, Integer.MIN_VALUE, Integer.MAX_VALUE}) {
            Due.is("formattedByte(" + index + ") without format", x.formattedByte(index), NONE);
        }
        x.format(5);
        Due.is("formattedByte(0)", x.formattedByte(0), '5');
        Due.is("formattedByte(2)", x.formattedByte(2), '2');
        for (int index : new int[] {-1, 3, 4, 255, 256, 259, 1000, Integer.MIN_VALUE, Integer.MAX_VALUE}) {
            Due.is("formattedByte(" + index + ")", x.formattedByte(index), NONE);
        }
        Due.sentence(39, "the byte at index of the text of the most recent call of format");
        Due.is("format(3)", x.format(3), 16);
        Due.is("of a longer text", Due.formatted(x, 16), "3>0r 4:3 7:3 8:1");
        x.format(0);
        Due.is("of a shorter text", Due.formatted(x, 3), "0-4");
        Due.is("behind a shorter text", x.formattedByte(3), NONE);
        Due.missing("format(6)", () -> x.format(6));
        Due.is("behind a format that throws", Due.formatted(x, 3), "0-4");
        Due.sentence(39, "as it was then (also behind load, undo and restoreSnapshot)");
        x.saveSnapshot();
        x.giveBack(0, 1);
        Due.is("behind giveBack", Due.formatted(x, 3), "0-4");
        x.format(0);
        x.undo();
        Due.is("behind undo", Due.formatted(x, 3), "0@1");
        x.restoreSnapshot();
        Due.is("behind restoreSnapshot", Due.formatted(x, 3), "0@1");
        Due.load(x, "branches 2;van 1 0 1;");
        Due.is("behind load", Due.formatted(x, 3), "0@1");
        Due.load(x, "branches 2;van");
        Due.query(x, "many 1 = 1");
        Due.is("behind an error and a query", Due.formatted(x, 3), "0@1");
    }

    private static void undoCount() {
        Due.sentence(40, "Returns the number of operations that can be undone.");
        BranchCourier x = Due.loaded("branches 2;van 1 0 1;");
        Due.is("at first", x.undoCount(), 0);
        for (int i = 1; i <= 12; i++) {
            x.run(1);
            Due.is("behind " + i, x.undoCount(), Math.min(i, 10));
        }
        x.undo();
        Due.is("behind undo", x.undoCount(), 9);
        x.run(1);
        Due.is("behind undo and run", x.undoCount(), 10);
        x.saveSnapshot();
        Due.is("behind saveSnapshot", x.undoCount(), 10);
        x.restoreSnapshot();
        Due.is("behind restoreSnapshot", x.undoCount(), 0);
    }

    private static void undo() {
        Due.sentence(41, "Returns the number of operations that can still be undone");
        BranchCourier x = Due.loaded("branches 2;van 1 0 1;");
        for (int i = 1; i <= 11; i++) {
            x.run(1);
        }
        for (int left = 9; left >= 0; left--) {
            Due.is("undo()", x.undo(), left);
            Due.is("size(5)", x.size(5), left + 1);
        }
        Due.sentence(41, "NONE if there was nothing to undo");
        Due.is("undo() behind all", x.undo(), NONE);
        Due.is("size(5)", x.size(5), 1);
        Due.is("undoCount()", x.undoCount(), 0);
        Due.is("undo() of a new object", new BranchCourier().undo(), NONE);
        x.run(1);
        Due.is("undo() of one", x.undo(), 0);
        Due.is("undo() again", x.undo(), NONE);
    }

    private static int operate(BranchCourier x, int which) {
        switch (which) {
            case 0:
                return x.ask(3, 0, 2);
            case 1:
                return x.cancel(2, 5);
            case 2:
                return x.recall(1);
            case 3:
                return x.take(1, 4);
            case 4:
                return x.giveBack(0, 3);
            case 5:
                return x.lose(0);
            case 6:
                return x.find(4, 2);
            case 7:
                return x.close(1);
            case 8:
                return x.open(2);
            case 9:
                return x.setHold(50);
            default:
                return x.run(99);
        }
    }

    private static void undoEach() {
        Due.sentence(41, "Undoes the most recent operation.");
        String before = Due.told(Due.everyState());
        for (int which = 0; which <= 10; which++) {
            BranchCourier x = Due.everyState();
            Due.is("operation " + which + " is refused", operate(x, which) < 0, false);
            Due.is("operation " + which + " changes nothing", Due.told(x).equals(before), false);
            Due.is("undo() of operation " + which, x.undo(), 7);
            Due.is("the library behind undo of operation " + which, Due.told(x), before);
        }
    }

    private static void saveSnapshot() {
        Due.sentence(42, "Saves a snapshot of everything that undoing restores.");
        String saved = Due.told(Due.everyState());
        for (int which = 0; which <= 10; which++) {
            BranchCourier x = Due.everyState();
            x.saveSnapshot();
            Due.is("undoCount() behind saveSnapshot", x.undoCount(), 7);
            operate(x, which);
            x.restoreSnapshot();
            Due.is("the library behind operation " + which, Due.told(x), saved);
        }
        Due.sentence(42, "It replaces an earlier snapshot.");
        BranchCourier x = Due.everyState();
        x.saveSnapshot();
        x.setHold(33);
        x.saveSnapshot();
        x.setHold(44);
        x.restoreSnapshot();
        Due.is("size(6)", x.size(6), 33);
    }

    private static void restoreSnapshot() {
        Due.sentence(43, "Restores the snapshot and clears the undo history.");
        BranchCourier x = Due.everyState();
        x.saveSnapshot();
        x.setHold(33);
        Due.is("restoreSnapshot()", x.restoreSnapshot(), true);
        Due.is("size(6)", x.size(6), 9);
        Due.is("undoCount()", x.undoCount(), 0);
        Due.is("undo()", x.undo(), NONE);
        Due.is("size(6) behind undo", x.size(6), 9);
        Due.sentence(43, "The snapshot is kept.");
        x.setHold(44);
        x.run(1);
        Due.is("restoreSnapshot() again", x.restoreSnapshot(), true);
        Due.is("size(6)", x.size(6), 9);
        Due.is("size(5)", x.size(5), 4);
        Due.sentence(43, "Returns true; false if there is no snapshot (nothing changes).");
        Due.is("restoreSnapshot() of a new object", new BranchCourier().restoreSnapshot(), false);
        BranchCourier none = Due.everyState();
        String before = Due.told(none);
        Due.is("restoreSnapshot() without a snapshot", none.restoreSnapshot(), false);
        Due.is("the library", Due.told(none), before);
        Due.is("undoCount()", none.undoCount(), 7);
        none.saveSnapshot();
        Due.load(none, "branches 2;van 1 0 1;");
        Due.is("restoreSnapshot() behind load", none.restoreSnapshot(), false);
        Due.is("size(0)", none.size(0), 2);
    }
}
