/** Promises 38 to 43: format, formattedByte, undoing, and snapshots. */
public final class P38to43Test {
    private static final int NONE = BranchCourier.NONE;
    private static final String TEXT =
        "branches 4;van 2 1 0 1 2;book 0;book 0;book 2;hold 3;ask 0 5 1;ask 0 6 2;ask 1 5 2;";
    /** Small enough to be told whole some times within 512 calls. */
    private static final String SMALL = "branches 2;van 1 1 0;book 0;hold 3;ask 0 5 1;";

    public static void main(String[] args) {
        format();
        longText();
        formattedByte();
        undoCount();
        undoEverything();
        undoOneByOne();
        whatUndoLeaves();
        snapshots();
        laterSnapshot();
        snapshotsAndHistory();
        Due.end();
    }

    private static void format() {
        Due.promise(38, "format");
        BranchCourier x = Due.loaded(TEXT);
        Due.is("on a shelf", Due.format(x, 2), "2@2");
        Due.is("with requests", Due.format(x, 0), "0@0 5:1 6:2");
        Due.is("the number of bytes", x.format(0), 11);
        x.run(2);
        Due.is("held", Due.format(x, 0), "0!1 5:1 6:2");
        Due.is("in a van", Due.format(x, 1), "1>0 5:2");
        x.recall(1);
        Due.is("recalled in a van", Due.format(x, 1), "1>0r 5:2");
        x.lose(0);
        Due.is("lost", Due.format(x, 1), "1?r 5:2");
        x.undo();
        x.undo();
        x.lose(0);
        Due.is("lost, not recalled", Due.format(x, 1), "1? 5:2");
        x.take(0, 5);
        Due.is("with a reader", Due.format(x, 0), "0-5 6:2");
        x.recall(0);
        Due.is("recalled from a reader", Due.format(x, 0), "0-5r 6:2");
        x.giveBack(0, 3);
        Due.is("recalled on a shelf", Due.format(x, 0), "0@3r 6:2");
        Due.missing("format(-1)", () -> x.format(-1));
        Due.missing("format(3)", () -> x.format(3));
        Due.is("the text behind format that throws", Due.formatted(x, 8), "0@3r 6:2");
    }

    private static void longText() {
        Due.promise(38, "the longest text");
        StringBuilder text = new StringBuilder("branches 6;van 1 0 5;" + "book 0;".repeat(20));
        StringBuilder due = new StringBuilder("19@0");
        for (int reader = 60; reader < 100; reader++) {
            text.append("ask 19 ").append(reader).append(" 5;");
            due.append(" ").append(reader).append(":5");
        }
        BranchCourier x = Due.loaded(text.toString());
        Due.is("format(19)", Due.format(x, 19), due.toString());
        x.cancel(19, 60);
        x.ask(19, 0, 0);
        x.cancel(19, 61);
        x.ask(19, 9, 1);
        x.cancel(19, 62);
        x.ask(19, 10, 2);
        Due.is("format(19)", Due.format(x, 19), "19@0" + due.substring(4 + 15) + " 0:0 9:1 10:2");
        Due.is("format(10)", Due.format(x, 10), "10@0");
    }

    private static void formattedByte() {
        Due.promise(39, "formattedByte");
        BranchCourier x = Due.loaded(TEXT);
        Due.is("formattedByte(0) ahead of format", x.formattedByte(0), NONE);
        x.format(0);
        String due = "0@0 5:1 6:2";
        for (int i = 0; i < due.length(); i++) {
            Due.is("formattedByte(" + i + ")", x.formattedByte(i), due.charAt(i));
        }
        int[] out = {-1, due.length(), due.length() + 1, 255, 256, 1000, Integer.MAX_VALUE, Integer.MIN_VALUE};
        for (int i : out) {
            Due.is("formattedByte(" + i + ")", x.formattedByte(i), NONE);
        }
        x.run(2);
        Due.is("behind run", Due.formatted(x, 11), due);
        x.undo();
        Due.is("behind undo", Due.formatted(x, 11), due);
        x.saveSnapshot();
        x.run(1);
        x.restoreSnapshot();
        Due.is("behind restoreSnapshot", Due.formatted(x, 11), due);
        Due.load(x, "branches 2;van 1 0 1;book 0;");
        Due.is("behind load", Due.formatted(x, 11), due);
        x.format(0);
        Due.is("formattedByte(2) of a shorter text", x.formattedByte(2), '0');
        Due.is("formattedByte(3) of a shorter text", x.formattedByte(3), NONE);
    }

    private static void undoCount() {
        Due.promise(40, "undoCount");
        BranchCourier x = Due.loaded(TEXT);
        Due.is("undoCount()", x.undoCount(), 0);
        for (int i = 1; i <= 12; i++) {
            x.setHold(i);
            Due.is("undoCount()", x.undoCount(), Math.min(i, 10));
        }
        for (int left = 9; left >= 0; left--) {
            Due.promise(41, "undo of the ten most recent");
            Due.is("undo()", x.undo(), left);
            Due.is("size(6)", x.size(6), left + 2);
            Due.promise(40, "undoCount behind undo");
            Due.is("undoCount()", x.undoCount(), left);
        }
        Due.promise(41, "undo without operations");
        Due.is("undo()", x.undo(), NONE);
        Due.is("size(6)", x.size(6), 2);
        Due.promise(40, "undoCount of operations that change nothing");
        x.setHold(2);
        x.lose(0);
        Due.is("undoCount()", x.undoCount(), 2);
    }

    private static void undoEverything() {
        Due.promise(41, "undo of each operation");
        String[] names = {"ask", "cancel", "recall", "take", "giveBack", "lose", "find", "close", "open", "setHold", "run"};
        for (String name : names) {
            BranchCourier x = Due.loaded(TEXT + "ask 2 8 2;");
            x.run(1);
            x.lose(0);
            x.find(1, 0);
            x.run(3);
            x.take(2, 8);
            x.ask(2, 9, 1);
            x.close(3);
            x.run(1);
            x.find(0, 1);
            x.run(1);
            x.saveSnapshot();
            if (name.equals("find")) {
                x.lose(0);
            }
            String before = Due.told(x);
            int count = x.undoCount();
            Due.is(name + " succeeds", operate(x, name) >= 0, true);
            String behind = Due.told(x);
            Due.is("undo() of " + name, x.undo(), Math.min(count, 9));
            Due.is("the library behind undo of " + name, Due.told(x), before);
            Due.is(name + " changes something", behind.equals(before), false);
        }
    }

    private static int operate(BranchCourier x, String name) {
        switch (name) {
            case "ask":
                return x.ask(0, 3, 3);
            case "cancel":
                return x.cancel(0, 5);
            case "recall":
                return x.recall(0);
            case "take":
                return x.take(0, 5);
            case "giveBack":
                return x.giveBack(2, 0);
            case "lose":
                return x.lose(0);
            case "find":
                return x.find(1, 3);
            case "close":
                return x.close(1);
            case "open":
                return x.open(3);
            case "setHold":
                return x.setHold(9);
            default:
                return x.run(7);
        }
    }

    private static void undoOneByOne() {
        Due.promise(41, "undo, the most recent first");
        BranchCourier x = Due.loaded(SMALL);
        for (int i = 0; i < 13; i++) {
            x.run(1);
        }
        for (int i = 12; i > 2; i--) {
            Due.is("undo()", x.undo(), i - 3);
            Due.is("the time", x.size(5), i);
            if (i % 3 == 0) {
                Due.is("the library at " + i, Due.told(x), smallAt(i));
            }
        }
        x.run(1);
        Due.is("the library behind undo and run", Due.told(x), smallAt(4));
        Due.is("undoCount()", x.undoCount(), 1);
    }

    private static String smallAt(int time) {
        BranchCourier x = Due.loaded(SMALL);
        x.run(time);
        return Due.told(x);
    }

    private static void whatUndoLeaves() {
        Due.promise(41, "what undo leaves");
        BranchCourier x = Due.loaded(TEXT);
        x.run(1);
        Due.query(x, "many ;");
        x.saveSnapshot();
        x.run(1);
        Due.feed(x, "many book = 1");
        x.undo();
        Due.is("errorPosition()", x.errorPosition(), 5);
        Due.is("the buffer", x.query(13), 1);
        Due.is("undoCount()", x.undoCount(), 1);
        x.undo();
        Due.is("restoreSnapshot()", x.restoreSnapshot(), true);
        Due.is("size(5)", x.size(5), 1);
    }

    private static void snapshots() {
        Due.promise(42, "saveSnapshot");
        BranchCourier x = Due.loaded(TEXT);
        Due.promise(43, "restoreSnapshot without a snapshot");
        x.run(3);
        Due.is("restoreSnapshot()", x.restoreSnapshot(), false);
        Due.is("size(5)", x.size(5), 3);
        Due.is("undoCount()", x.undoCount(), 1);
        Due.promise(42, "saveSnapshot");
        x.close(3);
        x.take(0, 5);
        String saved = Due.told(x);
        x.saveSnapshot();
        Due.is("undoCount()", x.undoCount(), 3);
        x.giveBack(0, 1);
        x.close(2);
        x.recall(1);
        x.cancel(0, 6);
        x.setHold(7);
        x.run(9);
        Due.promise(43, "restoreSnapshot");
        Due.is("restoreSnapshot()", x.restoreSnapshot(), true);
        Due.is("the library", Due.told(x), saved);
        Due.is("undoCount()", x.undoCount(), 0);
        Due.is("undo()", x.undo(), NONE);
        x.run(50);
        Due.is("restoreSnapshot() again", x.restoreSnapshot(), true);
        Due.is("the library again", Due.told(x), saved);
    }

    private static void laterSnapshot() {
        Due.promise(42, "a later snapshot");
        BranchCourier x = Due.loaded(TEXT);
        x.saveSnapshot();
        x.run(3);
        String later = Due.told(x);
        x.saveSnapshot();
        x.run(1);
        x.restoreSnapshot();
        Due.is("the library", Due.told(x), later);
    }

    private static void snapshotsAndHistory() {
        Due.promise(43, "what restoreSnapshot leaves");
        BranchCourier x = Due.loaded(TEXT);
        x.saveSnapshot();
        x.run(2);
        Due.query(x, "many ;");
        Due.feed(x, "many book = 1");
        x.restoreSnapshot();
        Due.is("errorPosition()", x.errorPosition(), 5);
        Due.is("the buffer", x.query(13), 1);
        x.run(1);
        Due.is("undo()", x.undo(), 0);
        Due.is("size(5)", x.size(5), 0);
        Due.promise(42, "saveSnapshot is no operation");
        x.run(1);
        x.saveSnapshot();
        Due.is("undo()", x.undo(), 0);
        x.restoreSnapshot();
        Due.is("size(5)", x.size(5), 1);
    }
}
