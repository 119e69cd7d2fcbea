/** What happens in ticks ('A tick' in the document), tick by tick, which promises 18 to 20 and 37 rest on. */
public final class TickTest {
    private static final int NONE = BranchCourier.NONE;

    public static void main(String[] args) {
        loadingInOrder();
        loadingRecalledOnes();
        loadingRequestedOnes();
        unloadingAheadOfLoading();
        changingVans();
        closedBranches();
        withoutGoal();
        withoutLegs();
        firstOfTheNearest();
        passingBy();
        recalledAndHeld();
        recalledAtAClosedHome();
        heldForALaterRequest();
        holding();
        Due.end();
    }

    /** Lets a tick pass, and tells the books from the first one on. */
    private static void tick(BranchCourier x, String... due) {
        x.run(1);
        for (int book = 0; book < due.length; book++) {
            Due.is("book " + book + " at " + x.size(5), Due.format(x, book), due[book]);
        }
    }

    private static void loadingInOrder() {
        Due.promise(37, "recalled books come first, then requested ones");
        BranchCourier x = Due.loaded("branches 2;van 1 1 0;book 1;book 1;book 0;ask 0 1 0;ask 1 2 0;");
        tick(x, "0@1 1:0", "1@1 2:0", "2@0");
        tick(x, "0>0 1:0", "1@1 2:0", "2@0");
        tick(x, "0!0 1:0", "1@1 2:0", "2@0");
        tick(x, "0!0 1:0", "1>0 2:0", "2@0");
        tick(x, "0!0 1:0", "1!0 2:0", "2@0");
        x.take(0, 1);
        x.take(1, 2);
        x.giveBack(0, 0);
        x.giveBack(1, 0);
        x.ask(2, 3, 1);
        x.recall(1);
        tick(x, "0@0", "1@0r", "2@0 3:1");
        tick(x, "0@0", "1>0r", "2@0 3:1");
        tick(x, "0@0", "1@1", "2@0 3:1");
        tick(x, "0@0", "1@1", "2>0 3:1");
        tick(x, "0@0", "1@1", "2!1 3:1");
        tick(x, "0>0", "1@1", "2!1 3:1");
        tick(x, "0@1", "1@1", "2!1 3:1");
    }

    /** Book 0 goes home, book 1 is asked for, book 2 is recalled. */
    private static void loadingRecalledOnes() {
        Due.promise(37, "recalled books come ahead of requested ones with smaller numbers");
        BranchCourier x = Due.loaded("branches 2;van 2 1 0;book 1;book 0;book 1;ask 0 1 0;ask 2 2 0;");
        x.run(3);
        x.take(0, 1);
        x.take(2, 2);
        x.giveBack(0, 0);
        x.giveBack(2, 0);
        x.ask(1, 3, 1);
        x.recall(2);
        tick(x, "0@0", "1@0 3:1", "2@0r");
        tick(x, "0@0", "1>0 3:1", "2>0r");
        tick(x, "0@0", "1!1 3:1", "2@1");
        tick(x, "0>0", "1!1 3:1", "2@1");
        BranchCourier y = Due.loaded("branches 2;van 1 1 0;book 0;book 1;ask 0 1 1;ask 1 2 0;");
        y.run(3);
        Due.is("book 1", Due.format(y, 1), "1!0 2:0");
        y.take(1, 2);
        y.giveBack(1, 0);
        y.recall(1);
        y.recall(0);
        y.cancel(0, 1);
        y.run(2);
        Due.is("book 0 home again", Due.format(y, 0), "0@0");
        y.ask(0, 4, 1);
        y.lose(0);
        y.find(1, 0);
        tick(y, "0@0 4:1", "1@0r");
        tick(y, "0@0 4:1", "1>0r");
        tick(y, "0@0 4:1", "1@1");
        tick(y, "0>0 4:1", "1@1");
    }

    private static void loadingRequestedOnes() {
        Due.promise(37, "requested ones have any request with an open branch");
        BranchCourier x = Due.loaded("branches 4;van 1 1 0;book 1;book 0;ask 0 1 0;");
        x.run(3);
        x.take(0, 1);
        x.giveBack(0, 0);
        x.ask(0, 9, 3);
        x.ask(1, 9, 3);
        x.ask(1, 8, 1);
        x.close(3);
        tick(x, "0@0 9:3", "1@0 9:3 8:1");
        tick(x, "0@0 9:3", "1>0 9:3 8:1");
        tick(x, "0@0 9:3", "1!1 9:3 8:1");
        tick(x, "0>0 9:3", "1!1 9:3 8:1");
        tick(x, "0@1 9:3", "1!1 9:3 8:1");
    }

    private static void unloadingAheadOfLoading() {
        Due.promise(37, "a full van unloads ahead of loading");
        BranchCourier x = Due.loaded("branches 2;van 1 1 0;book 0;book 1;book 0;ask 0 1 1;ask 1 1 0;ask 2 1 1;");
        tick(x, "0>0 1:1", "1@1 1:0", "2@0 1:1");
        tick(x, "0!1 1:1", "1>0 1:0", "2@0 1:1");
        tick(x, "0!1 1:1", "1!0 1:0", "2>0 1:1");
        tick(x, "0!1 1:1", "1!0 1:0", "2!1 1:1");
    }

    private static void changingVans() {
        Due.promise(37, "changing vans in one tick");
        BranchCourier x = Due.loaded("branches 3;van 1 0 1;van 1 2 1;book 0;ask 0 1 2;");
        tick(x, "0@0 1:2");
        tick(x, "0>0 1:2");
        tick(x, "0>1 1:2");
        tick(x, "0!2 1:2");
        Due.promise(37, "a van with a smaller number has gone on already");
        BranchCourier y = Due.loaded("branches 3;van 1 2 1;van 1 0 1;book 0;ask 0 1 2;");
        tick(y, "0@0 1:2");
        tick(y, "0>1 1:2");
        tick(y, "0@1 1:2");
        tick(y, "0@1 1:2");
        tick(y, "0>0 1:2");
        tick(y, "0!2 1:2");
    }

    private static void closedBranches() {
        Due.promise(37, "nothing happens at a closed branch");
        BranchCourier x = Due.loaded("branches 3;van 1 0 1 2;book 0;ask 0 1 1;");
        x.run(3);
        x.close(1);
        tick(x, "0>0 1:1");
        tick(x, "0>0 1:1");
        tick(x, "0@0 1:1");
        x.close(0);
        x.open(1);
        tick(x, "0@0 1:1");
        tick(x, "0@0 1:1");
        tick(x, "0@0 1:1");
        Due.is("van(0, 3)", x.van(0, 3), 0);
        x.open(0);
        tick(x, "0@0 1:1");
        tick(x, "0@0 1:1");
        tick(x, "0>0 1:1");
        tick(x, "0!1 1:1");
    }

    private static void withoutGoal() {
        Due.promise(37, "a book without a goal leaves its van");
        BranchCourier x = Due.loaded("branches 3;van 1 0 1 2;book 0;ask 0 1 1;");
        x.run(3);
        x.close(1);
        x.close(0);
        tick(x, "0>0 1:1");
        tick(x, "0@2 1:1");
        tick(x, "0@2 1:1");
        x.run(5);
        Due.is("still there", Due.format(x, 0), "0@2 1:1");
    }

    private static void withoutLegs() {
        Due.promise(37, "a book without a way to its goal stays in its van");
        BranchCourier x = Due.loaded("branches 4;van 1 0 1;van 1 1 3;book 0;ask 0 1 3;");
        tick(x, "0@0 1:3");
        tick(x, "0>0 1:3");
        x.close(1);
        tick(x, "0>0 1:3");
        tick(x, "0>0 1:3");
        x.open(1);
        tick(x, "0@1 1:3");
        tick(x, "0>1 1:3");
        tick(x, "0!3 1:3");
    }

    private static void firstOfTheNearest() {
        Due.promise(37, "a book leaves at the first of several stops that are alike");
        BranchCourier x = Due.loaded("branches 5;van 1 0 1 2;van 1 3 1;van 1 2 3;book 0;ask 0 1 3;");
        x.run(2);
        tick(x, "0>0 1:3");
        // Van 1 comes to 1 in odd ticks alone.
        tick(x, "0@1 1:3");
        tick(x, "0>1 1:3");
        tick(x, "0!3 1:3");
    }

    private static void passingBy() {
        Due.promise(37, "a book stays in its van where a later stop is nearer");
        BranchCourier x = Due.loaded("branches 4;van 1 0 1 2;van 1 1 2 3;book 0;ask 0 1 3;ask 0 2 2;");
        x.cancel(0, 1);
        x.run(3);
        tick(x, "0>0 2:2");
        tick(x, "0!2 2:2");
        BranchCourier y = Due.loaded("branches 5;van 1 0 1 2;van 1 1 3;van 1 3 2 4;book 0;ask 0 1 4;");
        // From 1 it would be two legs, from 2 one.
        y.run(3);
        tick(y, "0>0 1:4");
        tick(y, "0@2 1:4");
        tick(y, "0@2 1:4");
        tick(y, "0>2 1:4");
        tick(y, "0!4 1:4");
    }

    private static void recalledAndHeld() {
        Due.promise(37, "a recalled book");
        BranchCourier x = Due.loaded("branches 2;van 1 1 0;book 0;ask 0 1 1;");
        tick(x, "0>0 1:1");
        tick(x, "0!1 1:1");
        x.recall(0);
        tick(x, "0@1r 1:1");
        x.cancel(0, 1);
        x.ask(0, 2, 0);
        tick(x, "0>0r 2:0");
        tick(x, "0!0 2:0");
        Due.is("book(0, 6)", x.book(0, 6), 2);
    }

    private static void recalledAtAClosedHome() {
        Due.promise(37, "a recalled book at its closed home");
        BranchCourier x = Due.loaded("branches 2;van 1 1 0;book 0;ask 0 1 1;");
        tick(x, "0>0 1:1");
        x.recall(0);
        x.lose(0);
        x.close(0);
        Due.is("find(0, 0)", x.find(0, 0), 0);
        Due.is("book(0, 5)", x.book(0, 5), 1);
        tick(x, "0@0 1:1");
        Due.is("book(0, 3)", x.book(0, 3), 1);
        tick(x, "0@0 1:1");
        x.open(0);
        tick(x, "0@0 1:1");
        tick(x, "0>0 1:1");
    }

    private static void heldForALaterRequest() {
        Due.promise(37, "a book that is held for a request behind one that opens");
        BranchCourier x = Due.loaded("branches 3;van 1 1 0;book 1;hold 2;ask 0 1 2;ask 0 2 1;ask 0 3 1;");
        x.close(2);
        tick(x, "0!1 1:2 2:1 3:1");
        Due.is("book(0, 6)", x.book(0, 6), 2);
        Due.is("request(0, 0, 2)", x.request(0, 0, 2), 0);
        Due.is("request(0, 1, 2)", x.request(0, 1, 2), 1);
        x.open(2);
        Due.is("book(0, 3)", x.book(0, 3), 2);
        Due.is("book(0, 8)", x.book(0, 8), NONE);
        tick(x, "0!1 1:2 2:1 3:1");
        tick(x, "0!1 1:2 2:1 3:1");
        tick(x, "0@1 1:2 3:1");
        x.close(2);
        tick(x, "0!1 1:2 3:1");
        Due.is("book(0, 6)", x.book(0, 6), 3);
        Due.is("book(0, 7)", x.book(0, 7), 7);
    }

    private static void holding() {
        Due.promise(37, "how long a book is held");
        BranchCourier x = Due.loaded("branches 2;van 1 1 0;book 1;hold 1;ask 0 1 1;ask 0 2 1;ask 0 3 0;");
        tick(x, "0!1 1:1 2:1 3:0");
        Due.is("book(0, 7)", x.book(0, 7), 2);
        tick(x, "0!1 1:1 2:1 3:0");
        x.setHold(2);
        tick(x, "0!1 2:1 3:0");
        Due.is("book(0, 6)", x.book(0, 6), 2);
        Due.is("book(0, 7)", x.book(0, 7), 5);
        tick(x, "0!1 2:1 3:0");
        tick(x, "0!1 2:1 3:0");
        tick(x, "0@1 3:0");
        tick(x, "0@1 3:0");
        tick(x, "0>0 3:0");
        tick(x, "0!0 3:0");
        BranchCourier y = Due.loaded("branches 2;van 1 1 0;book 1;ask 0 1 1;");
        y.run(11);
        Due.is("the first HOLD", Due.format(y, 0), "0!1 1:1");
        y.run(1);
        Due.is("behind the first HOLD", Due.format(y, 0), "0@1");
    }
}
