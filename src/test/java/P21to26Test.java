/** Promises 21 to 26: the whole library. */
public final class P21to26Test {
    private static final int NONE = BranchCourier.NONE;

    public static void main(String[] args) {
        fullest();
        mostWanted();
        stranded();
        hub();
        loaded();
        lostShare();
        Due.end();
    }

    /** In the tick 1 van 1 takes one book, van 2 two and van 3 two. */
    private static BranchCourier threeVans() {
        BranchCourier x = Due.loaded("branches 6;van 9 0 1;van 1 1 2;van 2 1 3;van 3 0 4;"
            + "book 2;book 2;book 3;book 3;book 3;book 4;book 4;ask 0 1 1;ask 2 1 1;ask 3 1 1;ask 4 1 1;ask 5 1 0;ask 6 1 0;");
        x.run(1);
        return x;
    }

    private static void fullest() {
        Due.promise(21, "fullest");
        BranchCourier x = threeVans();
        Due.is("fullest() of two alike", x.fullest(), 2);
        x.lose(2);
        Due.is("fullest()", x.fullest(), 3);
        x.lose(3);
        Due.is("fullest() with one book", x.fullest(), 1);
        x.lose(1);
        Due.is("fullest() without books in vans", x.fullest(), 0);
        Due.is("fullest() of a new object", new BranchCourier().fullest(), 0);
    }

    private static void mostWanted() {
        Due.promise(22, "mostWanted");
        BranchCourier x = Due.loaded("branches 2;van 1 0 1;book 0;book 0;book 0;");
        Due.is("mostWanted() without requests", x.mostWanted(), NONE);
        x.ask(0, 1, 1);
        Due.is("mostWanted() of the first book", x.mostWanted(), 0);
        x.cancel(0, 1);
        x.ask(2, 1, 1);
        Due.is("mostWanted()", x.mostWanted(), 2);
        x.ask(1, 1, 1);
        Due.is("mostWanted() of two alike", x.mostWanted(), 1);
        x.ask(2, 2, 1);
        Due.is("mostWanted() of the most", x.mostWanted(), 2);
        Due.is("mostWanted() without books", new BranchCourier().mostWanted(), NONE);
    }

    private static void stranded() {
        Due.promise(23, "stranded");
        BranchCourier x = Due.loaded("branches 4;van 1 0 1;van 1 1 2;book 0;book 3;book 3;book 2;ask 1 1 0;ask 3 1 0;");
        // Book 1 has no way from 3 to 0; book 0 and 2 are at their goals, book 3 has a way.
        Due.is("stranded()", x.stranded(), 1);
        x.close(1);
        Due.is("stranded() without the way over 1", x.stranded(), 2);
        x.close(0);
        // Now the homes are the goals again: only book 0 has none.
        Due.is("stranded() with 0 and 1 closed", x.stranded(), 1);
        x.close(3);
        Due.is("stranded() with 0, 1 and 3 closed", x.stranded(), 3);
        x.close(2);
        Due.is("stranded() with all closed", x.stranded(), 4);
        BranchCourier y = Due.loaded("branches 3;van 1 1 0;van 1 1 2;book 0;book 0;ask 0 1 1;ask 1 1 0;");
        y.run(1);
        y.close(1);
        y.close(2);
        Due.is("stranded() of a book in a van and one that is held", y.stranded(), 0);
        y.close(0);
        Due.is("stranded() of one that was held", y.stranded(), 1);
        y.lose(0);
        Due.is("stranded() of a lost book", y.stranded(), 1);
        y.find(0, 2);
        Due.is("stranded() of a found book", y.stranded(), 2);
        y.open(1);
        y.open(0);
        y.run(1);
        y.take(1, 1);
        y.close(1);
        y.recall(1);
        y.close(0);
        Due.is("stranded() of a book with a reader", y.stranded(), 1);
    }

    private static void hub() {
        Due.promise(24, "hub");
        BranchCourier x = Due.loaded("branches 6;van 1 0 1;van 1 1 2;van 1 2 3;van 1 3 4;");
        // Without 1: 0 is cut off from 2, 3, 4 (6 pairs); without 2: 0 and 1 from 3 and 4 (8 pairs).
        Due.is("hub()", x.hub(), 2);
        x.close(0);
        // Without 2: 1 from 3 and 4; without 3: 4 from 1 and 2.
        Due.is("hub() of two alike", x.hub(), 2);
        x.close(1);
        Due.is("hub() of the rest", x.hub(), 3);
        x.close(3);
        Due.is("hub() without any pairs", x.hub(), 2);
        x.close(2);
        x.close(4);
        Due.is("hub() with one open branch", x.hub(), 5);
        x.close(5);
        Due.is("hub() without open branches", x.hub(), NONE);
        Due.is("legs(5, 5) behind hub()", x.legs(5, 5), NONE);
        Due.is("hub() of a new object", new BranchCourier().hub(), 0);
        BranchCourier y = Due.loaded("branches 5;van 1 0 1;van 1 0 1;van 1 3 2 4;van 1 4 1;");
        // Without 1: 0 from 2, 3, 4 (6 pairs); without 4: 2 and 3 from 0 and 1 (8 pairs).
        Due.is("hub() of a star", y.hub(), 4);
        Due.is("legs(0, 3) behind hub()", y.legs(0, 3), 3);
        // 5 is linked to most, but only 1 cuts any off: 0.
        BranchCourier z = Due.loaded("branches 6;van 1 2 3 5 4;van 1 1 5 3 2;van 1 0 1;van 1 1 4;");
        Due.is("hub() of 0 and the others", z.hub(), 1);
        BranchCourier parts = Due.loaded("branches 5;van 1 0 1;van 1 2 3 4;");
        Due.is("hub() where none cuts others off", parts.hub(), 0);
    }

    private static void loaded() {
        Due.promise(25, "loaded");
        BranchCourier x = threeVans();
        Due.isExactly("loaded()", x.loaded(), 5.0 / 15.0);
        x.lose(2);
        Due.isExactly("loaded() behind lose", x.loaded(), 3.0 / 15.0);
        x.lose(1);
        x.lose(3);
        Due.isExactly("loaded() without books in vans", x.loaded(), 0.0);
        Due.isExactly("loaded() of a new object", new BranchCourier().loaded(), 0.0);
        BranchCourier y = Due.loaded("branches 2;van 1 1 0;van 6 0 1;book 0;ask 0 1 1;");
        y.run(1);
        Due.isExactly("loaded() as a double", y.loaded(), 1.0 / 7.0);
        BranchCourier z = Due.loaded("branches 2;van 1 1 0;book 0;ask 0 1 1;");
        z.run(1);
        Due.isExactly("loaded() of a van for one book", z.loaded(), 1.0);
    }

    private static void lostShare() {
        Due.promise(26, "lostShare");
        BranchCourier x = threeVans();
        Due.isExactly("lostShare()", x.lostShare(), 0.0f);
        x.lose(1);
        Due.isExactly("lostShare() as a float", x.lostShare(), 1.0f / 7.0f);
        x.lose(2);
        x.lose(3);
        Due.isExactly("lostShare() of several", x.lostShare(), 5.0f / 7.0f);
        Due.isExactly("lostShare() without books", new BranchCourier().lostShare(), 0.0f);
    }
}
