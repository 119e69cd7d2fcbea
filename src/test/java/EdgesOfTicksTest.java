/** The sentences of 'A tick' that name edges, each with checks of its own. */
public final class EdgesOfTicksTest {
    private static final int NONE = BranchCourier.NONE;

    public static void main(String[] args) {
        time();
        nextStop();
        vansByTheirNumbers();
        closedBranches();
        unloadingWithoutGoal();
        unloadingWithLegs();
        unloadingAtTheNearest();
        loadingWithLegs();
        loadingOneFewer();
        room();
        ranks();
        changing();
        timeIsOver();
        goneRequests();
        recalledAtHome();
        recalledElsewhere();
        heldForTheFirst();
        limits();
        Due.end();
    }

    /** Lets a tick pass, and tells the books from the first one on. */
    private static void tick(BranchCourier x, String... due) {
        x.run(1);
        for (int book = 0; book < due.length; book++) {
            Due.is("book " + book + " at " + x.size(5), Due.format(x, book), due[book]);
        }
    }

    private static void time() {
        Due.sentence("A tick", "The time is 0 at first");
        BranchCourier x = Due.loaded("branches 2;van 1 0 1;");
        Due.is("size(5)", x.size(5), 0);
        Due.sentence("A tick", "In a tick it becomes 1 more");
        for (int time = 1; time <= 3; time++) {
            x.run(1);
            Due.is("size(5)", x.size(5), time);
        }
        Due.sentence("A tick", "at most 9999");
        for (int i = 0; i < 100; i++) {
            x.run(99);
        }
        Due.is("run(97) to 10000", x.run(97), -2);
        Due.is("run(96) to 9999", x.run(96), 0);
        Due.is("size(5)", x.size(5), 9999);
        Due.is("run(1) to 10000", x.run(1), -2);
        Due.is("size(5)", x.size(5), 9999);
    }

    private static void nextStop() {
        Due.sentence("A tick", "goes to the next stop of its route (behind the last one comes the stop 0)");
        BranchCourier x = Due.loaded("branches 3;van 1 0 1;van 1 0 1 2 0 1 2 0 2;");
        for (int time = 1; time <= 17; time++) {
            x.run(1);
            Due.is("van(0, 2) at " + time, x.van(0, 2), time % 2);
            Due.is("van(1, 2) at " + time, x.van(1, 2), time % 8);
        }
        x.close(1);
        x.close(2);
        x.run(1);
        Due.is("van(1, 2) at a closed branch", x.van(1, 2), 2);
    }

    private static void vansByTheirNumbers() {
        Due.sentence("A tick", "First, each van, by their numbers");
        BranchCourier x = Due.loaded("branches 2;" + "van 1 1 0;".repeat(4) + "book 0;".repeat(5)
            + "ask 0 1 1;ask 1 1 1;ask 2 1 1;ask 3 1 1;ask 4 1 1;");
        tick(x, "0>0 1:1", "1>1 1:1", "2>2 1:1", "3>3 1:1", "4@0 1:1");
    }

    private static void closedBranches() {
        Due.sentence("A tick", "If that branch is closed, nothing else happens there.");
        // A book without a goal leaves at the first open branch, but not at a closed one.
        BranchCourier x = Due.loaded("branches 3;van 1 2 0 1;book 0;ask 0 1 1;");
        tick(x, "0>0 1:1");
        x.close(0);
        x.close(1);
        tick(x, "0>0 1:1");
        tick(x, "0@2 1:1");
        // Books are not loaded at a closed branch, though they have a goal.
        BranchCourier y = Due.loaded("branches 2;van 1 1 0;book 0;ask 0 1 1;");
        y.close(0);
        tick(y, "0@0 1:1");
        tick(y, "0@0 1:1");
        y.open(0);
        tick(y, "0>0 1:1");
    }

    private static void unloadingWithoutGoal() {
        Due.sentence("A tick", "each one leaves it and stands on the shelf there that has no goal");
        BranchCourier x = Due.loaded("branches 3;van 2 1 0 2;book 0;book 0;ask 0 1 1;ask 1 1 1;");
        tick(x, "0>0 1:1", "1>0 1:1");
        x.recall(1);
        x.close(0);
        x.close(1);
        // Neither book has a goal; both stay where they then are.
        tick(x, "0@2 1:1", "1@2r 1:1");
        tick(x, "0@2 1:1", "1@2r 1:1");
        tick(x, "0@2 1:1", "1@2r 1:1");
        tick(x, "0@2 1:1", "1@2r 1:1");
    }

    private static void unloadingWithLegs() {
        Due.sentence("A tick", "or a goal that has legs from this branch");
        // The goal 3 is open, but with 1 closed no way leads there: the book goes round in its van.
        BranchCourier x = Due.loaded("branches 4;van 1 2 0 1;van 1 1 3;book 0;ask 0 1 3;");
        tick(x, "0>0 1:3");
        x.close(1);
        tick(x, "0>0 1:3");
        tick(x, "0>0 1:3");
        tick(x, "0>0 1:3");
        Due.is("book(0, 3)", x.book(0, 3), 3);
        // At its goal, which is 0 legs away, it leaves.
        BranchCourier y = Due.loaded("branches 2;van 1 1 0;book 0;ask 0 1 1;");
        tick(y, "0>0 1:1");
        tick(y, "0!1 1:1");
    }

    private static void unloadingAtTheNearest() {
        Due.sentence("A tick", "and no fewer legs from any other open branch of the route of this van");
        // Stops 1 and 2 are both one leg from 3: the book leaves at the first of them.
        BranchCourier alike = Due.loaded("branches 4;van 1 2 0 1;van 1 1 3;van 1 2 3;book 0;ask 0 1 3;");
        tick(alike, "0>0 1:3");
        // Van 1 comes to 1 in even ticks, and so takes it over.
        tick(alike, "0>1 1:3");
        BranchCourier waits = Due.loaded("branches 4;van 1 2 0 1;van 1 3 1;van 1 3 2;book 0;ask 0 1 3;");
        tick(waits, "0>0 1:3");
        tick(waits, "0@1 1:3");
        // From 2 it is one leg, from 1 two: the book stays in its van at 1; with 2 closed it leaves there.
        String text = "branches 6;van 1 5 0 1 2;van 1 2 3;van 1 4 1;van 1 4 3;book 0;ask 0 1 3;";
        BranchCourier stays = Due.loaded(text);
        tick(stays, "0>0 1:3");
        tick(stays, "0>0 1:3");
        tick(stays, "0@2 1:3");
        BranchCourier leaves = Due.loaded(text);
        tick(leaves, "0>0 1:3");
        leaves.close(2);
        Due.is("legs(1, 3)", leaves.legs(1, 3), 2);
        tick(leaves, "0@1 1:3");
    }

    private static void loadingWithLegs() {
        Due.sentence("A tick", "have a goal with legs from this branch (at least 1)");
        // Book 0 is at its goal, book 1 has no way to its goal 3; a closed branch on the route makes neither come in.
        BranchCourier x = Due.loaded("branches 4;van 9 1 0 2;book 0;book 0;book 0;ask 1 1 3;ask 2 1 2;");
        x.close(1);
        tick(x, "0@0", "1@0 1:3", "2>0 1:2");
        // Without a goal: its home is closed, and it has no request.
        BranchCourier y = Due.loaded("branches 3;van 9 1 0 2;book 0;ask 0 1 2;");
        tick(y, "0>0 1:2");
        y.lose(0);
        y.cancel(0, 1);
        y.find(0, 2);
        y.close(0);
        Due.is("book(0, 3)", y.book(0, 3), NONE);
        tick(y, "0@2");
        tick(y, "0@2");
        tick(y, "0@2");
        tick(y, "0@2");
    }

    private static void loadingOneFewer() {
        Due.sentence("A tick", "and one fewer from some open branch of the route of this van");
        // From 0 and from 1 it is two legs to 3: van 0 does not take the book, van 1 does.
        BranchCourier x = Due.loaded("branches 4;van 1 1 0;van 1 2 0;van 1 2 1;van 1 2 3;book 0;ask 0 1 3;");
        Due.is("legs(0, 3)", x.legs(0, 3), 2);
        Due.is("legs(1, 3)", x.legs(1, 3), 2);
        tick(x, "0>1 1:3");
        // From 1 it is more legs than from 0.
        BranchCourier y = Due.loaded("branches 4;van 1 1 0;van 1 3 2 0;book 0;ask 0 1 3;");
        Due.is("legs(1, 3)", y.legs(1, 3), 2);
        tick(y, "0@0 1:3");
        tick(y, "0>1 1:3");
        // The branch that would be one nearer is closed: with 2 closed, van 0 brings no book from 0 nearer to 3.
        BranchCourier z = Due.loaded("branches 6;van 1 1 0 2;van 1 2 3;van 1 5 0 4;van 1 4 3;book 0;ask 0 1 3;");
        z.close(2);
        Due.is("legs(0, 3)", z.legs(0, 3), 2);
        tick(z, "0>2 1:3");
    }

    private static void room() {
        Due.sentence("A tick", "books come into the van, as long as there is room");
        BranchCourier x = Due.loaded("branches 3;van 2 1 0 2;book 0;book 0;book 0;ask 0 1 1;ask 1 1 1;ask 2 1 1;");
        tick(x, "0>0 1:1", "1>0 1:1", "2@0 1:1");
        // A full van takes none; one that has unloaded has room again.
        BranchCourier y = Due.loaded("branches 3;van 1 1 0 2;book 0;book 2;book 1;ask 0 1 1;ask 1 1 1;ask 2 1 0;");
        tick(y, "0>0 1:1", "1@2 1:1", "2@1 1:0");
        tick(y, "0>0 1:1", "1@2 1:1", "2@1 1:0");
        tick(y, "0!1 1:1", "1@2 1:1", "2>0 1:0");
        // Room for two, one of which is taken.
        BranchCourier z = Due.loaded("branches 3;van 2 1 0 2;book 0;book 2;book 2;ask 0 1 1;ask 1 1 1;ask 2 1 1;");
        tick(z, "0>0 1:1", "1@2 1:1", "2@2 1:1");
        tick(z, "0>0 1:1", "1>0 1:1", "2@2 1:1");
    }

    /** At 4, four books of the home 0 stand at 2, where they were held in vain; only van 1 comes there in 5. */
    private static BranchCourier fourAtTwo(int room) {
        BranchCourier x = Due.loaded("branches 4;van 9 2 0;van " + room + " 0 1 2;" + "book 0;".repeat(4)
            + "hold 1;ask 0 1 2;ask 1 1 2;ask 2 1 2;ask 3 1 2;");
        x.run(4);
        Due.is("books on the shelf of 2", x.branch(2, 1), 4);
        return x;
    }

    private static void ranks() {
        Due.sentence("A tick", "first recalled ones");
        BranchCourier x = fourAtTwo(1);
        x.recall(3);
        x.ask(0, 9, 1);
        tick(x, "0@2 9:1", "1@2", "2@2", "3>1r");
        x = fourAtTwo(2);
        x.recall(3);
        x.recall(1);
        x.ask(0, 9, 1);
        tick(x, "0@2 9:1", "1>1r", "2@2", "3>1r");
        Due.sentence("A tick", "then those with a request (any) whose branch is open");
        x = fourAtTwo(2);
        x.recall(3);
        x.ask(2, 9, 1);
        tick(x, "0@2", "1@2", "2>1 9:1", "3>1r");
        // The first request is for a closed branch, the second for an open one.
        x = fourAtTwo(1);
        x.ask(2, 9, 3);
        x.ask(2, 8, 1);
        x.close(3);
        tick(x, "0@2", "1@2", "2>1 9:3 8:1", "3@2");
        // A request whose branch is closed does not count.
        x = fourAtTwo(1);
        x.ask(1, 9, 3);
        x.ask(2, 8, 1);
        x.close(3);
        tick(x, "0@2", "1@2 9:3", "2>1 8:1", "3@2");
        x = fourAtTwo(1);
        x.ask(1, 9, 3);
        x.close(3);
        tick(x, "0>1", "1@2 9:3", "2@2", "3@2");
        Due.sentence("A tick", "then others");
        x = fourAtTwo(3);
        x.recall(3);
        x.ask(2, 9, 1);
        tick(x, "0>1", "1@2", "2>1 9:1", "3>1r");
        Due.sentence("A tick", "among them by their numbers");
        x = fourAtTwo(3);
        tick(x, "0>1", "1>1", "2>1", "3@2");
        x = fourAtTwo(1);
        x.recall(2);
        x.recall(1);
        tick(x, "0@2", "1>1r", "2@2r", "3@2");
        x = fourAtTwo(1);
        x.ask(3, 9, 1);
        x.ask(2, 9, 1);
        tick(x, "0@2", "1@2", "2>1 9:1", "3@2 9:1");
    }

    private static void changing() {
        Due.sentence("A tick",
            "(A book that has just left a van can come into another one, not into the same one in this tick.)");
        BranchCourier y = Due.loaded("branches 3;van 1 1 0;van 1 1 2;book 0;ask 0 1 2;");
        tick(y, "0>0 1:2");
        // Both vans are at 1; the book goes from the one into the other.
        tick(y, "0>1 1:2");
        tick(y, "0!2 1:2");
        // At 1 the book is as near to 3 as it comes in van 0, and does not go on to 2 in it.
        BranchCourier z = Due.loaded("branches 4;van 1 2 0 1;van 1 3 1;van 1 3 2;book 0;ask 0 1 3;");
        tick(z, "0>0 1:3");
        tick(z, "0@1 1:3");
        Due.is("van(0, 4)", z.van(0, 4), 0);
    }

    private static void timeIsOver() {
        Due.sentence("A tick", "(Its time is over if the time is greater than its limit.)");
        BranchCourier x = Due.loaded("branches 2;van 1 1 0;book 1;hold 3;ask 0 1 1;");
        tick(x, "0!1 1:1");
        Due.is("book(0, 7)", x.book(0, 7), 4);
        tick(x, "0!1 1:1");
        tick(x, "0!1 1:1");
        // The time is its limit.
        tick(x, "0!1 1:1");
        tick(x, "0@1");
        Due.is("book(0, 0)", x.book(0, 0), 0);
        Due.is("book(0, 6)", x.book(0, 6), NONE);
        Due.is("book(0, 7)", x.book(0, 7), NONE);
    }

    private static void goneRequests() {
        Due.sentence("A tick", "is on the shelf of this branch again, and the request for which it was held is gone");
        // It is held for the second request; then the branch of the first one opens.
        BranchCourier x = Due.loaded("branches 3;van 1 0 1;book 1;hold 1;ask 0 1 2;ask 0 2 1;ask 0 3 2;");
        x.close(2);
        tick(x, "0!1 1:2 2:1 3:2");
        x.open(2);
        tick(x, "0!1 1:2 2:1 3:2");
        tick(x, "0@1 1:2 3:2");
        // In the same tick it is held anew for the next request for this branch.
        BranchCourier y = Due.loaded("branches 2;van 1 0 1;book 1;hold 1;ask 0 1 1;ask 0 2 1;");
        tick(y, "0!1 1:1 2:1");
        tick(y, "0!1 1:1 2:1");
        tick(y, "0!1 2:1");
        Due.is("book(0, 6)", y.book(0, 6), 2);
        tick(y, "0!1 2:1");
        tick(y, "0@1");
    }

    private static void recalledAtHome() {
        Due.sentence("A tick", "if it is recalled and stands at its home (open or not), it is not recalled any more");
        BranchCourier x = Due.loaded("branches 2;van 1 1 0;book 0;ask 0 1 1;");
        x.run(2);
        x.recall(0);
        x.cancel(0, 1);
        x.run(1);
        Due.is("on its way", Due.format(x, 0), "0@1r");
        tick(x, "0>0r");
        tick(x, "0@0");
        // At its closed home.
        BranchCourier y = Due.loaded("branches 2;van 1 1 0;book 0;ask 0 1 1;");
        y.run(1);
        y.recall(0);
        y.lose(0);
        y.close(0);
        y.find(0, 0);
        Due.is("behind find", Due.format(y, 0), "0@0r 1:1");
        tick(y, "0@0 1:1");
        // In a van that stands at its closed home it does not stand there.
        BranchCourier z = Due.loaded("branches 2;van 1 1 0;book 0;ask 0 1 1;");
        z.run(1);
        z.recall(0);
        z.close(0);
        z.close(1);
        tick(z, "0>0r 1:1");
        tick(z, "0>0r 1:1");
    }

    private static void recalledElsewhere() {
        Due.sentence("A tick", "Then, if it is not recalled");
        // The recalled book stands where it is asked for, and is not held; at its home it is held at once.
        BranchCourier x = Due.loaded("branches 2;van 1 1 0;book 0;ask 0 1 1;");
        x.run(2);
        x.recall(0);
        tick(x, "0@1r 1:1");
        x.ask(0, 2, 0);
        x.cancel(0, 1);
        tick(x, "0>0r 2:0");
        tick(x, "0!0 2:0");
    }

    private static void heldForTheFirst() {
        Due.sentence("A tick", "and its first request with an open branch is one for the branch at which it stands");
        BranchCourier x = Due.loaded("branches 3;van 1 0 2;book 1;ask 0 1 2;ask 0 2 1;");
        // The first request is for another branch, which is open.
        tick(x, "0@1 1:2 2:1");
        x.close(2);
        tick(x, "0!1 1:2 2:1");
        Due.sentence("A tick", "it is held there for that request");
        Due.is("request(0, 0, 2)", x.request(0, 0, 2), 0);
        Due.is("request(0, 1, 2)", x.request(0, 1, 2), 1);
        Due.is("book(0, 6)", x.book(0, 6), 2);
        Due.is("book(0, 1)", x.book(0, 1), 1);
        // At a closed branch none is held.
        BranchCourier y = Due.loaded("branches 2;van 1 0 1;book 1;ask 0 1 1;");
        y.close(1);
        tick(y, "0@1 1:1");
        y.open(1);
        tick(y, "0!1 1:1");
    }

    private static void limits() {
        Due.sentence("A tick", "its limit is the time plus HOLD (1 to 50, 10 at first)");
        BranchCourier x = Due.loaded("branches 2;van 1 0 1;book 1;ask 0 1 1;");
        tick(x, "0!1 1:1");
        Due.is("limit with the first HOLD", x.book(0, 7), 11);
        BranchCourier one = Due.loaded("branches 2;van 1 0 1;book 1;hold 1;ask 0 1 1;");
        tick(one, "0!1 1:1");
        Due.is("limit with HOLD 1", one.book(0, 7), 2);
        BranchCourier fifty = Due.loaded("branches 2;van 1 0 1;book 1;hold 50;ask 0 1 1;");
        fifty.run(50);
        Due.is("limit with HOLD 50", fifty.book(0, 7), 51);
        tick(fifty, "0!1 1:1");
        tick(fifty, "0@1");
        BranchCourier last = Due.loaded("branches 2;van 1 0 1;book 1;hold 50;");
        for (int i = 0; i < 100; i++) {
            last.run(99);
        }
        last.run(98);
        last.ask(0, 1, 1);
        last.run(1);
        Due.is("limit beyond the last time", last.book(0, 7), 10049);
    }
}
