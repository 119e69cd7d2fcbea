import java.util.NoSuchElementException;

/** A courier between the branches of a library; README.md tells how to use it. */
public final class BranchCourier {
    public static final int NONE = -1;
    public static final int HIDDEN = -1000000000;

    private static final int MIN_BRANCHES = 2;
    private static final int MAX_BRANCHES = 6;
    private static final int MAX_VANS = 4;
    private static final int MAX_ROOM = 9;
    private static final int MAX_STOPS = 8;
    private static final int MAX_BOOKS = 20;
    private static final int MAX_REQUESTS = 40;
    private static final int MAX_READER = 99;
    private static final int MAX_HOLD = 50;
    private static final int FIRST_HOLD = 10;
    private static final int MAX_TIME = 9999;
    private static final int MAX_RUN = 99;
    private static final int MAX_FORECAST = 200;
    private static final int MAX_UNDO = 10;
    private static final int MAX_BUFFER = 800;
    private static final int FEED_BYTES = 20;
    private static final int MAX_QUERY = 200;
    private static final int MAX_QUERY_NUMBER = 9999;
    private static final int MAX_NESTED = 6;
    private static final int LINE_BYTES = 256;

    private static final int ON_SHELF = 0;
    private static final int IN_VAN = 1;
    private static final int HELD = 2;
    private static final int WITH_READER = 3;
    private static final int LOST = 4;

    private static final int SIZE_NUMBERS = 13;
    private static final int BOOK_NUMBERS = 9;
    private static final int VAN_NUMBERS = 6;
    private static final int BRANCH_NUMBERS = 6;
    private static final int REQUEST_NUMBERS = 3;

    private static final int NOT_ALLOWED = 1;
    private static final int OUT_OF_RANGE = 2;
    private static final int TOO_MANY = 3;
    private static final int REPEATED = 4;

    private final byte[] buffer;
    private int buffered;
    private int errorAt;
    private final Tokens tokens;
    private final Line line;
    private final State current;
    // Forecasts and texts that may yet fail are worked out here, so that no call makes new rows.
    private final State spare;
    private Plan sparePlan;
    private final Ways spareWays;
    private final State snapshot;
    private boolean hasSnapshot;
    private final History history;

    public BranchCourier() {
        Plan plan = new Plan();
        plan.begin(2);
        plan.addVan(5);
        plan.addStop(0);
        plan.addStop(1);
        State state = new State(plan);
        state.begin();
        buffer = new byte[MAX_BUFFER];
        buffered = 0;
        errorAt = NONE;
        tokens = new Tokens();
        line = new Line();
        current = state;
        spare = new State(plan);
        sparePlan = new Plan();
        spareWays = new Ways();
        snapshot = new State(plan);
        hasSnapshot = false;
        history = new History(plan);
    }

    // ---- The text that comes in

    public int feed(int a, int b, int c, int d, int e) {
        if (buffered + FEED_BYTES > MAX_BUFFER) {
            return NONE;
        }
        append(a);
        append(b);
        append(c);
        append(d);
        append(e);
        return buffered;
    }

    private void append(int fourBytes) {
        for (int shift = 24; shift >= 0; shift -= 8) {
            if (buffered < MAX_BUFFER) {
                buffer[buffered] = (byte) (fourBytes >> shift);
                buffered++;
            }
        }
    }

    public int load(int length) throws IllegalArgumentException {
        if (length < 0 || length > buffered) {
            throw new IllegalArgumentException("length out of range");
        }
        buffered = 0;
        tokens.begin(buffer, length);
        spare.plan = sparePlan;
        LibraryText.read(tokens, spare);
        errorAt = tokens.errorAt;
        if (tokens.failed()) {
            return -10 - tokens.error;
        }
        sparePlan = current.plan;
        current.copyFrom(spare);
        history.clear();
        hasSnapshot = false;
        return current.plan.books;
    }

    public int errorPosition() {
        return errorAt;
    }

    // ---- What can be asked of the state

    public int size(int what) throws NoSuchElementException {
        needWhat(what, SIZE_NUMBERS);
        switch (what) {
            case 0:
                return current.plan.branches;
            case 1:
                return current.openAmong(current.openMask);
            case 2:
                return current.plan.vans;
            case 3:
                return current.plan.books;
            case 4:
                return current.requests.count;
            case 5:
                return current.time;
            case 6:
                return current.hold;
            case 12:
                return Integer.bitCount(current.recalledMask);
            default:
                return current.countKind(what - 7);
        }
    }

    public int book(int book, int what) throws NoSuchElementException {
        needBook(book);
        needWhat(what, BOOK_NUMBERS);
        return current.tell(book, what);
    }

    public int van(int van, int what) throws NoSuchElementException {
        needVan(van);
        needWhat(what, VAN_NUMBERS);
        switch (what) {
            case 0:
                return current.plan.room[van];
            case 1:
                return current.plan.stops[van];
            case 2:
                return current.at[van];
            case 3:
                return current.plan.branchAt(van, current.at[van]);
            case 4:
                return current.countAt(IN_VAN, van);
            default:
                return current.openAmong(current.plan.routeMask[van]);
        }
    }

    public int stop(int van, int stop) throws NoSuchElementException {
        needVan(van);
        if (stop < 0 || stop >= current.plan.stops[van]) {
            throw new NoSuchElementException("no such stop");
        }
        return current.plan.branchAt(van, stop);
    }

    public int inVan(int van, int i) throws NoSuchElementException {
        needVan(van);
        if (i < 0 || i >= current.countAt(IN_VAN, van)) {
            throw new NoSuchElementException("not so many books in the van");
        }
        return current.nthInVan(van, i);
    }

    public int branch(int branch, int what) throws NoSuchElementException {
        needBranch(branch);
        needWhat(what, BRANCH_NUMBERS);
        switch (what) {
            case 0:
                return current.isOpen(branch) ? 1 : 0;
            case 1:
                return current.countAt(ON_SHELF, branch);
            case 2:
                return current.countAt(HELD, branch);
            case 3:
                return current.requests.countTo(branch);
            case 4:
                return current.plan.countHomes(branch);
            default:
                return current.plan.countVansAt(branch);
        }
    }

    public int request(int book, int i, int what) throws NoSuchElementException {
        needBook(book);
        needWhat(what, REQUEST_NUMBERS);
        int index = current.requests.nthFor(book, i);
        if (index == NONE) {
            throw new NoSuchElementException("no such request");
        }
        int reader = current.requests.readerOf[index];
        switch (what) {
            case 0:
                return reader;
            case 1:
                return current.requests.branchOf[index];
            default:
                return current.isHeldFor(book, reader) ? 1 : 0;
        }
    }

    public int placeOf(int book, int reader) throws NoSuchElementException {
        needBook(book);
        return current.requests.placeFor(book, reader);
    }

    public int requestsOf(int reader) {
        return current.requests.countBy(reader);
    }

    public int legs(int branch, int other) throws NoSuchElementException {
        needBranch(branch);
        needBranch(other);
        return current.ways.between(branch, other);
    }

    public boolean wouldLoad(int book, int van) throws NoSuchElementException {
        needBook(book);
        needVan(van);
        if (current.kind[book] != ON_SHELF) {
            return false;
        }
        int place = current.place[book];
        return current.isOpen(place) && current.plan.hasStopAt(van, place)
            && current.comesNearerIn(book, van, place);
    }

    public int comesIn(int van, int branch) throws NoSuchElementException {
        needVan(van);
        needBranch(branch);
        int stops = current.plan.stops[van];
        int stop = current.at[van];
        for (int ticks = 1; ticks <= stops; ticks++) {
            stop = current.plan.stopBehind(van, stop);
            if (current.plan.branchAt(van, stop) == branch) {
                return ticks;
            }
        }
        return NONE;
    }

    public int meetIn(int van, int other) throws NoSuchElementException {
        needVan(van);
        needVan(other);
        if (van == other) {
            throw new NoSuchElementException("a van does not meet itself");
        }
        Plan plan = current.plan;
        // Behind so many ticks both stand again as they stand now.
        int circle = plan.stops[van] * plan.stops[other];
        int stop = current.at[van];
        int otherStop = current.at[other];
        for (int ticks = 1; ticks <= circle; ticks++) {
            stop = plan.stopBehind(van, stop);
            otherStop = plan.stopBehind(other, otherStop);
            if (plan.branchAt(van, stop) == plan.branchAt(other, otherStop)) {
                return ticks;
            }
        }
        return NONE;
    }

    // ---- Forecasts

    public int arrivesIn(int book) throws NoSuchElementException {
        needBook(book);
        spare.copyFrom(current);
        for (int ticks = 0; ticks <= MAX_FORECAST; ticks++) {
            if (spare.hasArrived(book)) {
                return ticks;
            }
            Tick.pass(spare);
        }
        return NONE;
    }

    public int heldIn(int book, int reader) throws NoSuchElementException {
        needBook(book);
        spare.copyFrom(current);
        for (int ticks = 0; ticks <= MAX_FORECAST; ticks++) {
            if (spare.isHeldFor(book, reader)) {
                return ticks;
            }
            Tick.pass(spare);
        }
        return NONE;
    }

    public int bookIn(int book, int what, int ticks) throws NoSuchElementException, IllegalArgumentException {
        needBook(book);
        needWhat(what, BOOK_NUMBERS);
        needWithin(ticks, 0, MAX_FORECAST);
        spare.copyFrom(current);
        for (int passed = 0; passed < ticks; passed++) {
            Tick.pass(spare);
        }
        return spare.tell(book, what);
    }

    // ---- The whole library

    public int fullest() {
        int best = 0;
        for (int van = 1; van < current.plan.vans; van++) {
            if (current.countAt(IN_VAN, van) > current.countAt(IN_VAN, best)) {
                best = van;
            }
        }
        return best;
    }

    public int mostWanted() {
        int best = NONE;
        int most = 0;
        for (int book = 0; book < current.plan.books; book++) {
            int count = current.requests.countFor(book);
            if (count > most) {
                best = book;
                most = count;
            }
        }
        return best;
    }

    public int stranded() {
        int count = 0;
        for (int book = 0; book < current.plan.books; book++) {
            // A book at its goal has 0 legs to it, as a goal is always open.
            if (current.kind[book] == ON_SHELF && current.legsToGoal(book) == NONE) {
                count++;
            }
        }
        return count;
    }

    public int hub() {
        int best = NONE;
        int most = -1;
        for (int branch = 0; branch < current.plan.branches; branch++) {
            int pairs = current.isOpen(branch) ? pairsLostWithout(branch) : -1;
            if (pairs > most) {
                best = branch;
                most = pairs;
            }
        }
        return best;
    }

    private int pairsLostWithout(int branch) {
        spareWays.measure(current.plan, current.openMask & ~(1 << branch));
        int count = 0;
        for (int from = 0; from < current.plan.branches; from++) {
            for (int to = 0; to < current.plan.branches; to++) {
                boolean others = from != branch && to != branch;
                if (others && current.ways.between(from, to) != NONE && spareWays.between(from, to) == NONE) {
                    count++;
                }
            }
        }
        return count;
    }

    public double loaded() {
        int room = 0;
        for (int van = 0; van < current.plan.vans; van++) {
            room += current.plan.room[van];
        }
        return room == 0 ? 0.0 : (double) current.countKind(IN_VAN) / (double) room;
    }

    public float lostShare() {
        int books = current.plan.books;
        return books == 0 ? 0.0f : (float) current.countKind(LOST) / (float) books;
    }

    // ---- Operations

    public int ask(int book, int reader, int branch) throws NoSuchElementException, IllegalArgumentException {
        needBook(book);
        needBranch(branch);
        needWithin(reader, 0, MAX_READER);
        if (current.requests.count >= MAX_REQUESTS) {
            return -2;
        }
        if (current.requests.indexFor(book, reader) != NONE || current.isWith(book, reader)) {
            return -3;
        }
        history.record(current);
        int place = current.requests.countFor(book);
        current.addRequest(book, reader, branch);
        return place;
    }

    public int cancel(int book, int reader) throws NoSuchElementException {
        needBook(book);
        int place = current.requests.placeFor(book, reader);
        if (place == NONE) {
            return -2;
        }
        history.record(current);
        if (current.isHeldFor(book, reader)) {
            current.putOnShelf(book, current.place[book]);
        }
        current.dropRequest(book, reader);
        return place;
    }

    public int recall(int book) throws NoSuchElementException {
        needBook(book);
        int before = current.kind[book];
        if (current.isRecalled(book)) {
            return -2;
        }
        if (before == ON_SHELF && current.place[book] == current.plan.home[book]) {
            return -3;
        }
        history.record(current);
        current.recalledMask |= 1 << book;
        if (before == HELD) {
            current.putOnShelf(book, current.place[book]);
        }
        return before;
    }

    public int take(int book, int reader) throws NoSuchElementException {
        needBook(book);
        if (!current.isHeldFor(book, reader)) {
            return -2;
        }
        history.record(current);
        int place = current.place[book];
        current.dropRequest(book, reader);
        current.put(book, WITH_READER, NONE, reader, NONE);
        return place;
    }

    public int giveBack(int book, int branch) throws NoSuchElementException {
        needBook(book);
        needBranch(branch);
        if (current.kind[book] != WITH_READER) {
            return -2;
        }
        if (!current.isOpen(branch)) {
            return -3;
        }
        history.record(current);
        int reader = current.reader[book];
        current.putOnShelf(book, branch);
        return reader;
    }

    public int lose(int van) throws NoSuchElementException {
        needVan(van);
        history.record(current);
        int count = 0;
        for (int book = 0; book < current.plan.books; book++) {
            if (current.isAt(book, IN_VAN, van)) {
                current.put(book, LOST, NONE, NONE, NONE);
                count++;
            }
        }
        return count;
    }

    public int find(int book, int branch) throws NoSuchElementException {
        needBook(book);
        needBranch(branch);
        if (current.kind[book] != LOST) {
            return -2;
        }
        history.record(current);
        current.putOnShelf(book, branch);
        return current.goalOf(book) + 1;
    }

    public int close(int branch) throws NoSuchElementException {
        needBranch(branch);
        if (!current.isOpen(branch)) {
            return -2;
        }
        history.record(current);
        current.setOpenMask(current.openMask & ~(1 << branch));
        for (int book = 0; book < current.plan.books; book++) {
            if (current.isAt(book, HELD, branch)) {
                current.putOnShelf(book, branch);
            }
        }
        return current.countAt(ON_SHELF, branch);
    }

    public int open(int branch) throws NoSuchElementException {
        needBranch(branch);
        if (current.isOpen(branch)) {
            return -2;
        }
        history.record(current);
        current.setOpenMask(current.openMask | 1 << branch);
        int count = 0;
        for (int book = 0; book < current.plan.books; book++) {
            if (current.isAt(book, ON_SHELF, branch) && current.goalOf(book) == branch) {
                count++;
            }
        }
        return count;
    }

    public int setHold(int hold) throws IllegalArgumentException {
        needWithin(hold, 1, MAX_HOLD);
        history.record(current);
        int before = current.hold;
        current.hold = hold;
        return before;
    }

    public int run(int ticks) throws IllegalArgumentException {
        needWithin(ticks, 1, MAX_RUN);
        if (current.time + ticks > MAX_TIME) {
            return -2;
        }
        history.record(current);
        int held = 0;
        for (int passed = 0; passed < ticks; passed++) {
            held += Tick.pass(current);
        }
        return held;
    }

    // ---- Formatting, undoing, snapshots, queries

    public int format(int book) throws NoSuchElementException {
        needBook(book);
        line.write(current, book);
        return line.length;
    }

    public int formattedByte(int index) {
        return index < 0 || index >= line.length ? NONE : line.bytes[index];
    }

    public int undoCount() {
        return history.count;
    }

    public int undo() {
        if (history.count == 0) {
            return NONE;
        }
        history.takeBack(current);
        return history.count;
    }

    public void saveSnapshot() {
        snapshot.copyFrom(current);
        hasSnapshot = true;
    }

    public boolean restoreSnapshot() {
        if (!hasSnapshot) {
            return false;
        }
        current.copyFrom(snapshot);
        history.clear();
        return true;
    }

    public int query(int length) throws IllegalArgumentException {
        if (length < 0 || length > MAX_QUERY || length > buffered) {
            throw new IllegalArgumentException("length out of range");
        }
        buffered = 0;
        tokens.begin(buffer, length);
        int answer = QueryText.answer(tokens, current);
        errorAt = tokens.errorAt;
        return tokens.failed() ? HIDDEN - tokens.error : answer;
    }

    // ---- What a call needs

    private void needBook(int book) {
        if (book < 0 || book >= current.plan.books) {
            throw new NoSuchElementException("no such book");
        }
    }

    private void needVan(int van) {
        if (van < 0 || van >= current.plan.vans) {
            throw new NoSuchElementException("no such van");
        }
    }

    private void needBranch(int branch) {
        if (branch < 0 || branch >= current.plan.branches) {
            throw new NoSuchElementException("no such branch");
        }
    }

    private static void needWhat(int what, int numbers) {
        if (what < 0 || what >= numbers) {
            throw new NoSuchElementException("no such number");
        }
    }

    private static void needWithin(int value, int least, int most) {
        if (value < least || value > most) {
            throw new IllegalArgumentException("number out of range");
        }
    }

    /** What a text fixes for good: branches, vans with their routes, and the homes of the books. */
    private static final class Plan {
        int branches;
        int vans;
        int books;
        final int[] room = new int[MAX_VANS];
        final int[] stops = new int[MAX_VANS];
        final int[] routeMask = new int[MAX_VANS];
        final int[] home = new int[MAX_BOOKS];
        private final int[] route = new int[MAX_VANS * MAX_STOPS];

        void begin(int branchCount) {
            branches = branchCount;
            vans = 0;
            books = 0;
        }

        void addVan(int roomOfVan) {
            if (vans < MAX_VANS) {
                room[vans] = roomOfVan;
                stops[vans] = 0;
                routeMask[vans] = 0;
                vans++;
            }
        }

        /** Adds a stop to the route of the van that was added last. */
        void addStop(int branch) {
            int van = vans - 1;
            if (van >= 0 && stops[van] < MAX_STOPS) {
                route[van * MAX_STOPS + stops[van]] = branch;
                routeMask[van] |= 1 << branch;
                stops[van]++;
            }
        }

        void addBook(int branch) {
            if (books < MAX_BOOKS) {
                home[books] = branch;
                books++;
            }
        }

        int branchAt(int van, int stop) {
            return route[van * MAX_STOPS + stop];
        }

        int stopBehind(int van, int stop) {
            return stop + 1 < stops[van] ? stop + 1 : 0;
        }

        boolean hasStopAt(int van, int branch) {
            return (routeMask[van] >> branch & 1) == 1;
        }

        int countVansAt(int branch) {
            int count = 0;
            for (int van = 0; van < vans; van++) {
                if (hasStopAt(van, branch)) {
                    count++;
                }
            }
            return count;
        }

        int countHomes(int branch) {
            int count = 0;
            for (int book = 0; book < books; book++) {
                if (home[book] == branch) {
                    count++;
                }
            }
            return count;
        }
    }

    /** The legs between all branches, for one plan and one set of open branches. */
    private static final class Ways {
        private final int[] fewest = new int[MAX_BRANCHES * MAX_BRANCHES];

        void measure(Plan plan, int openMask) {
            for (int i = 0; i < MAX_BRANCHES * MAX_BRANCHES; i++) {
                fewest[i] = NONE;
            }
            for (int from = 0; from < plan.branches; from++) {
                if ((openMask >> from & 1) == 1) {
                    measureFrom(from, plan, openMask);
                }
            }
        }

        private void measureFrom(int from, Plan plan, int openMask) {
            int reached = 1 << from;
            mark(from, reached, 0);
            for (int taken = 1; taken <= MAX_VANS; taken++) {
                int next = reached;
                for (int van = 0; van < plan.vans; van++) {
                    int linked = plan.routeMask[van] & openMask;
                    if ((linked & reached) != 0) {
                        next |= linked;
                    }
                }
                mark(from, next & ~reached, taken);
                reached = next;
            }
        }

        private void mark(int from, int branchMask, int taken) {
            for (int to = 0; to < MAX_BRANCHES; to++) {
                if ((branchMask >> to & 1) == 1) {
                    fewest[from * MAX_BRANCHES + to] = taken;
                }
            }
        }

        /** The legs between two branches; NONE also if one of them is NONE. */
        int between(int from, int to) {
            if (from < 0 || from >= MAX_BRANCHES || to < 0 || to >= MAX_BRANCHES) {
                return NONE;
            }
            return fewest[from * MAX_BRANCHES + to];
        }

        void copyFrom(Ways other) {
            System.arraycopy(other.fewest, 0, fewest, 0, MAX_BRANCHES * MAX_BRANCHES);
        }
    }

    /** All requests in the order in which they came, so that those for one book are in theirs. */
    private static final class Requests {
        int count;
        final int[] bookOf = new int[MAX_REQUESTS];
        final int[] readerOf = new int[MAX_REQUESTS];
        final int[] branchOf = new int[MAX_REQUESTS];
        // Which request decides a book's goal is looked up at every stop of every van.
        private final int[] firstOpen = new int[MAX_BOOKS];

        void clear() {
            count = 0;
        }

        void add(int book, int reader, int branch) {
            if (count < MAX_REQUESTS) {
                bookOf[count] = book;
                readerOf[count] = reader;
                branchOf[count] = branch;
                count++;
            }
        }

        void removeAt(int index) {
            if (index < 0 || index >= count) {
                return;
            }
            count--;
            for (int i = index; i < count; i++) {
                bookOf[i] = bookOf[i + 1];
                readerOf[i] = readerOf[i + 1];
                branchOf[i] = branchOf[i + 1];
            }
        }

        void findFirstOpen(int openMask) {
            for (int book = 0; book < MAX_BOOKS; book++) {
                firstOpen[book] = NONE;
            }
            for (int i = count - 1; i >= 0; i--) {
                if ((openMask >> branchOf[i] & 1) == 1) {
                    firstOpen[bookOf[i]] = i;
                }
            }
        }

        boolean hasOpen(int book) {
            return firstOpen[book] != NONE;
        }

        int firstOpenBranch(int book) {
            int index = firstOpen[book];
            return index == NONE ? NONE : branchOf[index];
        }

        int firstOpenReader(int book) {
            int index = firstOpen[book];
            return index == NONE ? NONE : readerOf[index];
        }

        int indexFor(int book, int reader) {
            for (int i = 0; i < count; i++) {
                if (bookOf[i] == book && readerOf[i] == reader) {
                    return i;
                }
            }
            return NONE;
        }

        int nthFor(int book, int n) {
            int place = 0;
            for (int i = 0; i < count; i++) {
                if (bookOf[i] == book) {
                    if (place == n) {
                        return i;
                    }
                    place++;
                }
            }
            return NONE;
        }

        int placeFor(int book, int reader) {
            int place = 0;
            for (int i = 0; i < count; i++) {
                if (bookOf[i] == book) {
                    if (readerOf[i] == reader) {
                        return place;
                    }
                    place++;
                }
            }
            return NONE;
        }

        int countFor(int book) {
            return countEqual(bookOf, book);
        }

        int countBy(int reader) {
            return countEqual(readerOf, reader);
        }

        int countTo(int branch) {
            return countEqual(branchOf, branch);
        }

        private int countEqual(int[] row, int value) {
            int equal = 0;
            for (int i = 0; i < count; i++) {
                if (row[i] == value) {
                    equal++;
                }
            }
            return equal;
        }

        void copyFrom(Requests other) {
            count = other.count;
            System.arraycopy(other.bookOf, 0, bookOf, 0, MAX_REQUESTS);
            System.arraycopy(other.readerOf, 0, readerOf, 0, MAX_REQUESTS);
            System.arraycopy(other.branchOf, 0, branchOf, 0, MAX_REQUESTS);
            System.arraycopy(other.firstOpen, 0, firstOpen, 0, MAX_BOOKS);
        }
    }

    /** Everything that operations change and undoing restores. */
    private static final class State {
        Plan plan;
        int time;
        int hold;
        int openMask;
        int recalledMask;
        final int[] at = new int[MAX_VANS];
        final int[] kind = new int[MAX_BOOKS];
        final int[] place = new int[MAX_BOOKS];
        final int[] reader = new int[MAX_BOOKS];
        final int[] limit = new int[MAX_BOOKS];
        final Requests requests = new Requests();
        // Depends on the plan and the open branches alone; kept, as every stop of a van asks for it.
        final Ways ways = new Ways();

        State(Plan plan) {
            this.plan = plan;
        }

        /** Puts everything where it is at the time 0 of the plan. */
        void begin() {
            time = 0;
            hold = FIRST_HOLD;
            recalledMask = 0;
            for (int van = 0; van < MAX_VANS; van++) {
                at[van] = 0;
            }
            for (int book = 0; book < plan.books; book++) {
                putOnShelf(book, plan.home[book]);
            }
            requests.clear();
            setOpenMask((1 << plan.branches) - 1);
        }

        void copyFrom(State other) {
            plan = other.plan;
            time = other.time;
            hold = other.hold;
            openMask = other.openMask;
            recalledMask = other.recalledMask;
            System.arraycopy(other.at, 0, at, 0, MAX_VANS);
            System.arraycopy(other.kind, 0, kind, 0, MAX_BOOKS);
            System.arraycopy(other.place, 0, place, 0, MAX_BOOKS);
            System.arraycopy(other.reader, 0, reader, 0, MAX_BOOKS);
            System.arraycopy(other.limit, 0, limit, 0, MAX_BOOKS);
            requests.copyFrom(other.requests);
            ways.copyFrom(other.ways);
        }

        void setOpenMask(int mask) {
            openMask = mask;
            ways.measure(plan, mask);
            requests.findFirstOpen(mask);
        }

        void addRequest(int book, int readerWho, int branch) {
            requests.add(book, readerWho, branch);
            requests.findFirstOpen(openMask);
        }

        void dropRequest(int book, int readerWho) {
            requests.removeAt(requests.indexFor(book, readerWho));
            requests.findFirstOpen(openMask);
        }

        void put(int book, int newKind, int newPlace, int newReader, int newLimit) {
            kind[book] = newKind;
            place[book] = newPlace;
            reader[book] = newReader;
            limit[book] = newLimit;
        }

        void putOnShelf(int book, int branch) {
            put(book, ON_SHELF, branch, NONE, NONE);
        }

        boolean isOpen(int branch) {
            return branch >= 0 && branch < plan.branches && (openMask >> branch & 1) == 1;
        }

        int openAmong(int branchMask) {
            return Integer.bitCount(branchMask & openMask);
        }

        boolean isRecalled(int book) {
            return (recalledMask >> book & 1) == 1;
        }

        boolean isAt(int book, int thisKind, int thisPlace) {
            return kind[book] == thisKind && place[book] == thisPlace;
        }

        boolean isHeldFor(int book, int readerWho) {
            return kind[book] == HELD && reader[book] == readerWho;
        }

        boolean isWith(int book, int readerWho) {
            return kind[book] == WITH_READER && reader[book] == readerWho;
        }

        boolean hasArrived(int book) {
            return kind[book] == HELD || kind[book] == ON_SHELF && place[book] == goalOf(book);
        }

        int goalOf(int book) {
            if (!isRecalled(book) && requests.hasOpen(book)) {
                return requests.firstOpenBranch(book);
            }
            return isOpen(plan.home[book]) ? plan.home[book] : NONE;
        }

        int legsToGoal(int book) {
            boolean stands = kind[book] == ON_SHELF || kind[book] == HELD;
            return stands ? ways.between(place[book], goalOf(book)) : NONE;
        }

        /** Whether a van that stands at a branch would bring a book one leg nearer to its goal. */
        boolean comesNearerIn(int book, int van, int branch) {
            int goal = goalOf(book);
            int legs = ways.between(branch, goal);
            return legs >= 1 && fewestAlong(van, goal) == legs - 1;
        }

        /** Whether a book in a van that stands at a branch comes no nearer to its goal in it. */
        boolean leavesAt(int book, int van, int branch) {
            int goal = goalOf(book);
            if (goal == NONE) {
                return true;
            }
            int legs = ways.between(branch, goal);
            return legs != NONE && fewestAlong(van, goal) >= legs;
        }

        /** The fewest legs to a goal from the open branches of a route; more than all legs if none has any. */
        private int fewestAlong(int van, int goal) {
            int fewest = MAX_BRANCHES;
            for (int branch = 0; branch < plan.branches; branch++) {
                int legs = plan.hasStopAt(van, branch) ? ways.between(branch, goal) : NONE;
                if (legs != NONE && legs < fewest) {
                    fewest = legs;
                }
            }
            return fewest;
        }

        int countKind(int thisKind) {
            int count = 0;
            for (int book = 0; book < plan.books; book++) {
                if (kind[book] == thisKind) {
                    count++;
                }
            }
            return count;
        }

        int countAt(int thisKind, int thisPlace) {
            int count = 0;
            for (int book = 0; book < plan.books; book++) {
                if (isAt(book, thisKind, thisPlace)) {
                    count++;
                }
            }
            return count;
        }

        int nthInVan(int van, int n) {
            int before = 0;
            for (int book = 0; book < plan.books; book++) {
                if (isAt(book, IN_VAN, van)) {
                    if (before == n) {
                        return book;
                    }
                    before++;
                }
            }
            return NONE;
        }

        /** A number of a book, as the public book tells it. */
        int tell(int book, int what) {
            switch (what) {
                case 0:
                    return kind[book];
                case 1:
                    return place[book];
                case 2:
                    return plan.home[book];
                case 3:
                    return goalOf(book);
                case 4:
                    return requests.countFor(book);
                case 5:
                    return isRecalled(book) ? 1 : 0;
                case 6:
                    return reader[book];
                case 7:
                    return limit[book];
                default:
                    return legsToGoal(book);
            }
        }
    }

    /** What happens to a state in one tick. */
    private static final class Tick {
        private static final int RANKS = 3;

        /** Lets a tick pass; returns how many books were held anew. */
        static int pass(State state) {
            state.time++;
            for (int van = 0; van < state.plan.vans; van++) {
                state.at[van] = state.plan.stopBehind(van, state.at[van]);
                int branch = state.plan.branchAt(van, state.at[van]);
                if (state.isOpen(branch)) {
                    unload(state, van, branch);
                    fill(state, van, branch);
                }
            }
            endHolding(state);
            return beginHolding(state);
        }

        private static void unload(State state, int van, int branch) {
            for (int book = 0; book < state.plan.books; book++) {
                if (state.isAt(book, IN_VAN, van) && state.leavesAt(book, van, branch)) {
                    state.putOnShelf(book, branch);
                }
            }
        }

        // A book that has just left this van needs no test here: the van brings it no nearer.
        private static void fill(State state, int van, int branch) {
            int room = state.plan.room[van] - state.countAt(IN_VAN, van);
            for (int rank = 0; rank < RANKS && room > 0; rank++) {
                for (int book = 0; book < state.plan.books && room > 0; book++) {
                    if (state.isAt(book, ON_SHELF, branch) && rankOf(state, book) == rank
                        && state.comesNearerIn(book, van, branch)) {
                        state.put(book, IN_VAN, van, NONE, NONE);
                        room--;
                    }
                }
            }
        }

        private static int rankOf(State state, int book) {
            if (state.isRecalled(book)) {
                return 0;
            }
            return state.requests.hasOpen(book) ? 1 : 2;
        }

        private static void endHolding(State state) {
            for (int book = 0; book < state.plan.books; book++) {
                if (state.kind[book] == HELD && state.time > state.limit[book]) {
                    state.dropRequest(book, state.reader[book]);
                    state.putOnShelf(book, state.place[book]);
                }
            }
        }

        private static int beginHolding(State state) {
            int held = 0;
            for (int book = 0; book < state.plan.books; book++) {
                if (state.kind[book] == ON_SHELF) {
                    int place = state.place[book];
                    if (place == state.plan.home[book]) {
                        state.recalledMask &= ~(1 << book);
                    }
                    if (!state.isRecalled(book) && state.requests.firstOpenBranch(book) == place) {
                        int reader = state.requests.firstOpenReader(book);
                        state.put(book, HELD, place, reader, state.time + state.hold);
                        held++;
                    }
                }
            }
            return held;
        }
    }

    /** The states ahead of the operations that can be undone, in a ring of rows made once. */
    private static final class History {
        int count;
        private int next;
        private final State[] rows = new State[MAX_UNDO];

        History(Plan plan) {
            for (int i = 0; i < MAX_UNDO; i++) {
                rows[i] = new State(plan);
            }
        }

        void clear() {
            count = 0;
        }

        void record(State state) {
            rows[next].copyFrom(state);
            next = next + 1 < MAX_UNDO ? next + 1 : 0;
            count = Math.min(count + 1, MAX_UNDO);
        }

        void takeBack(State state) {
            if (count > 0) {
                next = next > 0 ? next - 1 : MAX_UNDO - 1;
                count--;
                state.copyFrom(rows[next]);
            }
        }
    }

    /** The text of a book, as format writes it. */
    private static final class Line {
        int length;
        final byte[] bytes = new byte[LINE_BYTES];

        void write(State state, int book) {
            length = 0;
            putNumber(book);
            putWhereabouts(state, book);
            if (state.isRecalled(book)) {
                putSign('r');
            }
            Requests requests = state.requests;
            for (int i = 0; i < requests.count; i++) {
                if (requests.bookOf[i] == book) {
                    putSign(' ');
                    putNumber(requests.readerOf[i]);
                    putSign(':');
                    putNumber(requests.branchOf[i]);
                }
            }
        }

        private void putWhereabouts(State state, int book) {
            switch (state.kind[book]) {
                case ON_SHELF:
                    putSign('@');
                    putNumber(state.place[book]);
                    break;
                case IN_VAN:
                    putSign('>');
                    putNumber(state.place[book]);
                    break;
                case HELD:
                    putSign('!');
                    putNumber(state.place[book]);
                    break;
                case WITH_READER:
                    putSign('-');
                    putNumber(state.reader[book]);
                    break;
                default:
                    putSign('?');
                    break;
            }
        }

        /** No number here has more than two digits. */
        private void putNumber(int number) {
            if (number >= 10) {
                putSign('0' + number / 10);
            }
            putSign('0' + number % 10);
        }

        private void putSign(int sign) {
            if (length < LINE_BYTES) {
                bytes[length] = (byte) sign;
                length++;
            }
        }
    }

    /**
     * The tokens of a text, one at a time. Behind the first error no token is there any more, so that the readers
     * of the grammar come to their end by themselves.
     */
    private static final class Tokens {
        private static final int END = 0;
        private static final int WORD = 1;
        private static final int NUMBER = 2;
        private static final int SIGN = 3;
        private static final int STOPPED = 4;
        // Above every number that a text may hold, and far from an overflow when a digit more comes.
        private static final int TOO_LARGE = 1000000;

        int error;
        int errorAt;
        private byte[] bytes = new byte[0];
        private int length;
        private int kind;
        private int start;
        private int behind;
        private int value;

        void begin(byte[] text, int textLength) {
            bytes = text;
            length = Math.min(textLength, text.length);
            error = 0;
            errorAt = NONE;
            kind = END;
            behind = 0;
            advance();
        }

        boolean failed() {
            return error != 0;
        }

        /** Only the first error counts, so codes for one token are to be told in ascending order. */
        void fail(int code) {
            if (!failed()) {
                error = code;
                errorAt = start;
                kind = STOPPED;
            }
        }

        void advance() {
            if (kind == STOPPED) {
                return;
            }
            while (behind < length && isSpace(bytes[behind])) {
                behind++;
            }
            start = behind;
            if (start >= length) {
                kind = END;
            } else if (isLetter(bytes[start])) {
                readWord();
            } else if (isDigit(bytes[start])) {
                readNumber();
            } else {
                kind = SIGN;
                value = bytes[start];
                behind = start + 1;
            }
        }

        private void readWord() {
            kind = WORD;
            while (behind < length && isLetter(bytes[behind])) {
                behind++;
            }
        }

        private void readNumber() {
            kind = NUMBER;
            value = 0;
            while (behind < length && isDigit(bytes[behind])) {
                value = Math.min(value * 10 + bytes[behind] - '0', TOO_LARGE);
                behind++;
            }
        }

        private static boolean isSpace(int sign) {
            return sign == 32 || sign == 10;
        }

        private static boolean isLetter(int sign) {
            return sign >= 'a' && sign <= 'z';
        }

        private static boolean isDigit(int sign) {
            return sign >= '0' && sign <= '9';
        }

        boolean isNumber() {
            return kind == NUMBER;
        }

        boolean isSign(int sign) {
            return kind == SIGN && value == sign;
        }

        boolean isWord(String word) {
            int letters = word.length();
            if (kind != WORD || behind - start != letters) {
                return false;
            }
            for (int i = 0; i < letters; i++) {
                if (bytes[start + i] != word.charAt(i)) {
                    return false;
                }
            }
            return true;
        }

        void passWord(String word) {
            if (!isWord(word)) {
                fail(NOT_ALLOWED);
            }
            advance();
        }

        void passSign(int sign) {
            if (!isSign(sign)) {
                fail(NOT_ALLOWED);
            }
            advance();
        }

        void passEnd() {
            if (kind != END) {
                fail(NOT_ALLOWED);
            }
        }

        /** The number that stands here; the least one if there is an error. */
        int peekNumber(int least, int most) {
            if (kind != NUMBER) {
                fail(NOT_ALLOWED);
                return least;
            }
            if (value < least || value > most) {
                fail(OUT_OF_RANGE);
                return least;
            }
            return value;
        }

        int passNumber(int least, int most) {
            int number = peekNumber(least, most);
            advance();
            return number;
        }
    }

    /** Reads the text of a library into a state and its plan, which are of no use if the text has an error. */
    private static final class LibraryText {
        static void read(Tokens tokens, State state) {
            Plan plan = state.plan;
            tokens.passWord("branches");
            plan.begin(tokens.passNumber(MIN_BRANCHES, MAX_BRANCHES));
            tokens.passSign(';');
            readVans(tokens, plan);
            readBooks(tokens, plan);
            state.begin();
            if (tokens.isWord("hold")) {
                tokens.advance();
                state.hold = tokens.passNumber(1, MAX_HOLD);
                tokens.passSign(';');
            }
            readRequests(tokens, state);
            tokens.passEnd();
        }

        private static void readVans(Tokens tokens, Plan plan) {
            if (!tokens.isWord("van")) {
                tokens.fail(NOT_ALLOWED);
            }
            for (int van = 0; van < MAX_VANS && tokens.isWord("van"); van++) {
                tokens.advance();
                plan.addVan(tokens.passNumber(1, MAX_ROOM));
                readRoute(tokens, plan);
            }
            if (tokens.isWord("van")) {
                tokens.fail(TOO_MANY);
            }
        }

        private static void readRoute(Tokens tokens, Plan plan) {
            int first = readStop(tokens, plan, 0, NONE);
            int last = readStop(tokens, plan, 1, first);
            for (int stop = 2; stop <= MAX_STOPS && tokens.isNumber(); stop++) {
                last = readStop(tokens, plan, stop, last);
            }
            if (tokens.isSign(';') && last == first) {
                tokens.fail(REPEATED);
            }
            tokens.passSign(';');
        }

        private static int readStop(Tokens tokens, Plan plan, int stop, int ahead) {
            int branch = tokens.peekNumber(0, plan.branches - 1);
            if (stop >= MAX_STOPS) {
                tokens.fail(TOO_MANY);
            }
            if (branch == ahead) {
                tokens.fail(REPEATED);
            }
            tokens.advance();
            plan.addStop(branch);
            return branch;
        }

        private static void readBooks(Tokens tokens, Plan plan) {
            for (int book = 0; book < MAX_BOOKS && tokens.isWord("book"); book++) {
                tokens.advance();
                plan.addBook(tokens.passNumber(0, plan.branches - 1));
                tokens.passSign(';');
            }
            if (tokens.isWord("book")) {
                tokens.fail(TOO_MANY);
            }
        }

        private static void readRequests(Tokens tokens, State state) {
            for (int request = 0; request < MAX_REQUESTS && tokens.isWord("ask"); request++) {
                tokens.advance();
                readRequest(tokens, state);
            }
            if (tokens.isWord("ask")) {
                tokens.fail(TOO_MANY);
            }
        }

        private static void readRequest(Tokens tokens, State state) {
            int book = tokens.passNumber(0, state.plan.books - 1);
            int reader = tokens.peekNumber(0, MAX_READER);
            if (state.requests.indexFor(book, reader) != NONE) {
                tokens.fail(REPEATED);
            }
            tokens.advance();
            int branch = tokens.passNumber(0, state.plan.branches - 1);
            tokens.passSign(';');
            state.addRequest(book, reader, branch);
        }
    }

    /** Reads a query and evaluates it for all books at once: a test is the set of the books for which it holds. */
    private static final class QueryText {
        private static final int BOOK = -1;
        private static final int STATE = -2;
        private static final int PLACE = -3;
        private static final int HOME = -4;
        private static final int GOAL = -5;
        private static final int QUEUE = -6;
        private static final int RECALLED = -7;
        private static final int SHOWN_FOR_NONE = 99;

        static int answer(Tokens tokens, State state) {
            boolean many = tokens.isWord("many");
            if (!many && !tokens.isWord("first")) {
                tokens.fail(NOT_ALLOWED);
            }
            tokens.advance();
            int books = readTest(tokens, state, 0);
            tokens.passEnd();
            return many ? Integer.bitCount(books) : smallest(books);
        }

        private static int smallest(int books) {
            for (int book = 0; book < MAX_BOOKS; book++) {
                if ((books >> book & 1) == 1) {
                    return book;
                }
            }
            return NONE;
        }

        private static int readTest(Tokens tokens, State state, int nested) {
            int books = readConjunction(tokens, state, nested);
            for (int i = 0; i < MAX_QUERY && tokens.isWord("or"); i++) {
                tokens.advance();
                books |= readConjunction(tokens, state, nested);
            }
            return books;
        }

        private static int readConjunction(Tokens tokens, State state, int nested) {
            int books = readFactor(tokens, state, nested);
            for (int i = 0; i < MAX_QUERY && tokens.isWord("and"); i++) {
                tokens.advance();
                books &= readFactor(tokens, state, nested);
            }
            return books;
        }

        private static int readFactor(Tokens tokens, State state, int nested) {
            boolean not = tokens.isWord("not");
            if (!not && !tokens.isSign('(')) {
                return readComparison(tokens, state);
            }
            if (nested >= MAX_NESTED) {
                tokens.fail(TOO_MANY);
                return 0;
            }
            tokens.advance();
            if (not) {
                int all = (1 << state.plan.books) - 1;
                return all & ~readFactor(tokens, state, nested + 1);
            }
            int books = readTest(tokens, state, nested + 1);
            tokens.passSign(')');
            return books;
        }

        private static int readComparison(Tokens tokens, State state) {
            int left = readValue(tokens);
            boolean less = tokens.isSign('<');
            boolean equal = tokens.isSign('=');
            if (!less && !equal && !tokens.isSign('>')) {
                tokens.fail(NOT_ALLOWED);
            }
            tokens.advance();
            int right = readValue(tokens);
            int books = 0;
            for (int book = 0; book < state.plan.books; book++) {
                int a = valueOf(left, state, book);
                int b = valueOf(right, state, book);
                boolean holds = less ? a < b : equal ? a == b : a > b;
                books |= holds ? 1 << book : 0;
            }
            return books;
        }

        /** A number itself, or the negative one that stands for a property. */
        private static int readValue(Tokens tokens) {
            int value = tokens.isNumber() ? tokens.peekNumber(0, MAX_QUERY_NUMBER) : readProperty(tokens);
            tokens.advance();
            return value;
        }

        private static int readProperty(Tokens tokens) {
            if (tokens.isWord("book")) {
                return BOOK;
            }
            if (tokens.isWord("state")) {
                return STATE;
            }
            if (tokens.isWord("place")) {
                return PLACE;
            }
            if (tokens.isWord("home")) {
                return HOME;
            }
            if (tokens.isWord("goal")) {
                return GOAL;
            }
            if (tokens.isWord("queue")) {
                return QUEUE;
            }
            if (!tokens.isWord("recalled")) {
                tokens.fail(NOT_ALLOWED);
            }
            return RECALLED;
        }

        private static int valueOf(int value, State state, int book) {
            switch (value) {
                case BOOK:
                    return book;
                case STATE:
                    return state.kind[book];
                case PLACE:
                    return shown(state.place[book]);
                case HOME:
                    return state.plan.home[book];
                case GOAL:
                    return shown(state.goalOf(book));
                case QUEUE:
                    return state.requests.countFor(book);
                case RECALLED:
                    return state.isRecalled(book) ? 1 : 0;
                default:
                    return value;
            }
        }

        private static int shown(int number) {
            return number == NONE ? SHOWN_FOR_NONE : number;
        }
    }
}
