import java.util.ArrayList;
import java.util.List;
import java.util.NoSuchElementException;
import java.util.function.Function;

/**
 * The document written down a second time, in another form: lists of objects, copied whole for every undo, with
 * nothing kept that can be worked out. RandomTest compares BranchCourier with it.
 */
public final class Model {
    static final class Van {
        int room;
        int at;
        List<Integer> route = new ArrayList<>();

        int here() {
            return route.get(at);
        }
    }

    static final class Book {
        int number;
        int home;
        int state;
        int place;
        boolean recalled;
        int reader = -1;
        int limit = -1;
        List<int[]> asked = new ArrayList<>();
    }

    static final class World {
        List<Boolean> open = new ArrayList<>();
        List<Van> vans = new ArrayList<>();
        List<Book> books = new ArrayList<>();
        int time = 0;
        int hold = 10;

        World copy() {
            World w = new World();
            w.open.addAll(open);
            for (Van v : vans) {
                Van n = new Van();
                n.room = v.room;
                n.at = v.at;
                n.route.addAll(v.route);
                w.vans.add(n);
            }
            for (Book b : books) {
                Book n = new Book();
                n.number = b.number;
                n.home = b.home;
                n.state = b.state;
                n.place = b.place;
                n.recalled = b.recalled;
                n.reader = b.reader;
                n.limit = b.limit;
                for (int[] a : b.asked) {
                    n.asked.add(a.clone());
                }
                w.books.add(n);
            }
            w.time = time;
            w.hold = hold;
            return w;
        }

        int requests() {
            return books.stream().mapToInt(b -> b.asked.size()).sum();
        }

        int goal(Book b) {
            if (b.recalled) {
                return open.get(b.home) ? b.home : -1;
            }
            for (int[] a : b.asked) {
                if (open.get(a[1])) {
                    return a[1];
                }
            }
            return open.get(b.home) ? b.home : -1;
        }

        int legs(int from, int to) {
            if (from < 0 || to < 0 || !open.get(from) || !open.get(to)) {
                return -1;
            }
            int n = open.size();
            int[][] legs = new int[n][n];
            for (int a = 0; a < n; a++) {
                for (int b = 0; b < n; b++) {
                    int x = a;
                    int y = b;
                    boolean linked = open.get(x) && open.get(y)
                        && vans.stream().anyMatch(v -> v.route.contains(x) && v.route.contains(y));
                    legs[a][b] = a == b ? 0 : linked ? 1 : 1000;
                }
            }
            for (int c = 0; c < n; c++) {
                for (int a = 0; a < n; a++) {
                    for (int b = 0; b < n; b++) {
                        legs[a][b] = Math.min(legs[a][b], legs[a][c] + legs[c][b]);
                    }
                }
            }
            return legs[from][to] >= 1000 ? -1 : legs[from][to];
        }

        boolean loads(Book b, Van v, int here) {
            int goal = goal(b);
            int legs = legs(here, goal);
            if (legs < 1) {
                return false;
            }
            for (int other : v.route) {
                if (legs(other, goal) == legs - 1) {
                    return true;
                }
            }
            return false;
        }

        boolean unloads(Book b, Van v, int here) {
            int goal = goal(b);
            if (goal == -1) {
                return true;
            }
            int legs = legs(here, goal);
            if (legs == -1) {
                return false;
            }
            for (int other : v.route) {
                int fewer = legs(other, goal);
                if (other != here && fewer != -1 && fewer < legs) {
                    return false;
                }
            }
            return true;
        }

        int tick() {
            time++;
            for (int i = 0; i < vans.size(); i++) {
                Van v = vans.get(i);
                v.at = (v.at + 1) % v.route.size();
                int here = v.here();
                if (!open.get(here)) {
                    continue;
                }
                List<Book> left = new ArrayList<>();
                for (Book b : books) {
                    if (b.state == 1 && b.place == i && unloads(b, v, here)) {
                        shelf(b, here);
                        left.add(b);
                    }
                }
                List<Book> first = new ArrayList<>();
                List<Book> second = new ArrayList<>();
                List<Book> third = new ArrayList<>();
                int inside = 0;
                for (Book b : books) {
                    if (b.state == 1 && b.place == i) {
                        inside++;
                    }
                    if (b.state == 0 && b.place == here && !left.contains(b) && loads(b, v, here)) {
                        boolean asked = b.asked.stream().anyMatch(a -> open.get(a[1]));
                        (b.recalled ? first : asked ? second : third).add(b);
                    }
                }
                first.addAll(second);
                first.addAll(third);
                for (Book b : first) {
                    if (inside < v.room) {
                        b.state = 1;
                        b.place = i;
                        inside++;
                    }
                }
            }
            for (Book b : books) {
                if (b.state == 2 && time > b.limit) {
                    int reader = b.reader;
                    b.asked.removeIf(a -> a[0] == reader);
                    shelf(b, b.place);
                }
            }
            int anew = 0;
            for (Book b : books) {
                if (b.state != 0) {
                    continue;
                }
                if (b.recalled && b.place == b.home) {
                    b.recalled = false;
                }
                if (!b.recalled) {
                    for (int[] a : b.asked) {
                        if (open.get(a[1])) {
                            if (a[1] == b.place) {
                                b.state = 2;
                                b.reader = a[0];
                                b.limit = time + hold;
                                anew++;
                            }
                            break;
                        }
                    }
                }
            }
            return anew;
        }

        void shelf(Book b, int place) {
            b.state = 0;
            b.place = place;
            b.reader = -1;
            b.limit = -1;
        }

        int tell(int book, int what) {
            Book b = books.get(book);
            int[] all = {
                b.state, b.state >= 3 ? -1 : b.place, b.home, goal(b), b.asked.size(), b.recalled ? 1 : 0,
                b.state == 2 || b.state == 3 ? b.reader : -1, b.state == 2 ? b.limit : -1,
                b.state == 0 || b.state == 2 ? legs(b.place, goal(b)) : -1};
            return all[what];
        }
    }

    /** A mistake in a text. */
    static final class Mistake extends RuntimeException {
        private static final long serialVersionUID = 1L;
        final int code;
        final int position;

        Mistake(int code, int position) {
            this.code = code;
            this.position = position;
        }
    }

    /** The tokens of a text, all cut out ahead. */
    static final class Text {
        final List<String> tokens = new ArrayList<>();
        final List<Integer> positions = new ArrayList<>();
        int next = 0;

        Text(String text) {
            int i = 0;
            while (i < text.length()) {
                int to = i + 1;
                String c = text.substring(i, to);
                if (!c.equals(" ") && !c.equals("\n")) {
                    String run = c.matches("[a-z]") ? "[a-z]+" : c.matches("[0-9]") ? "[0-9]+" : null;
                    while (run != null && to < text.length() && text.substring(i, to + 1).matches(run)) {
                        to++;
                    }
                    tokens.add(text.substring(i, to));
                    positions.add(i);
                }
                i = to;
            }
            tokens.add("");
            positions.add(text.length());
        }

        boolean sees(String token) {
            return tokens.get(next).equals(token);
        }

        boolean seesNumber() {
            return tokens.get(next).matches("[0-9]+");
        }

        Mistake mistake(int code) {
            return new Mistake(code, positions.get(next));
        }

        void pass(String token) {
            if (!sees(token)) {
                throw mistake(1);
            }
            next++;
        }

        int see(int least, int most) {
            if (!seesNumber()) {
                throw mistake(1);
            }
            java.math.BigInteger n = new java.math.BigInteger(tokens.get(next));
            if (n.compareTo(java.math.BigInteger.valueOf(least)) < 0
                || n.compareTo(java.math.BigInteger.valueOf(most)) > 0) {
                throw mistake(2);
            }
            return n.intValue();
        }

        int number(int least, int most) {
            int n = see(least, most);
            next++;
            return n;
        }
    }

    private String buffer = "";
    private int errorAt = -1;
    private String text = "";
    private World now;
    private World saved = null;
    private final List<World> past = new ArrayList<>();

    public Model() {
        now = world(new Text("branches 2;van 5 0 1;"));
    }

    private static World world(Text t) {
        World w = new World();
        t.pass("branches");
        int branches = t.number(2, 6);
        for (int i = 0; i < branches; i++) {
            w.open.add(true);
        }
        t.pass(";");
        do {
            if (w.vans.size() == 4 && t.sees("van")) {
                throw t.mistake(3);
            }
            t.pass("van");
            Van v = new Van();
            v.room = t.number(1, 9);
            while (v.route.size() < 2 || t.seesNumber()) {
                int branch = t.see(0, branches - 1);
                if (v.route.size() == 8) {
                    throw t.mistake(3);
                }
                if (!v.route.isEmpty() && v.route.get(v.route.size() - 1) == branch) {
                    throw t.mistake(4);
                }
                v.route.add(branch);
                t.next++;
            }
            if (t.sees(";") && v.route.get(0).equals(v.route.get(v.route.size() - 1))) {
                throw t.mistake(4);
            }
            t.pass(";");
            w.vans.add(v);
        } while (t.sees("van"));
        while (t.sees("book")) {
            if (w.books.size() == 20) {
                throw t.mistake(3);
            }
            t.next++;
            Book b = new Book();
            b.number = w.books.size();
            b.home = t.number(0, branches - 1);
            b.place = b.home;
            w.books.add(b);
            t.pass(";");
        }
        if (t.sees("hold")) {
            t.next++;
            w.hold = t.number(1, 50);
            t.pass(";");
        }
        while (t.sees("ask")) {
            if (w.requests() == 40) {
                throw t.mistake(3);
            }
            t.next++;
            Book b = w.books.get(t.number(0, w.books.size() - 1));
            int reader = t.see(0, 99);
            if (b.asked.stream().anyMatch(a -> a[0] == reader)) {
                throw t.mistake(4);
            }
            t.next++;
            b.asked.add(new int[] {reader, t.number(0, branches - 1)});
            t.pass(";");
        }
        if (!t.sees("")) {
            throw t.mistake(1);
        }
        return w;
    }

    private static void needed(boolean there) {
        if (!there) {
            throw new NoSuchElementException();
        }
    }

    private static void legal(boolean right) {
        if (!right) {
            throw new IllegalArgumentException();
        }
    }

    private Book needBook(int book) {
        needed(book >= 0 && book < now.books.size());
        return now.books.get(book);
    }

    private Van needVan(int van) {
        needed(van >= 0 && van < now.vans.size());
        return now.vans.get(van);
    }

    private void needBranch(int branch) {
        needed(branch >= 0 && branch < now.open.size());
    }

    private long count(java.util.function.Predicate<Book> test) {
        return now.books.stream().filter(test).count();
    }

    public int feed(int a, int b, int c, int d, int e) {
        if (buffer.length() + 20 > 800) {
            return -1;
        }
        StringBuilder more = new StringBuilder(buffer);
        for (int word : new int[] {a, b, c, d, e}) {
            more.append((char) (word >>> 24)).append((char) (word >>> 16 & 255));
            more.append((char) (word >>> 8 & 255)).append((char) (word & 255));
        }
        buffer = more.toString();
        return buffer.length();
    }

    public int load(int length) {
        legal(length >= 0 && length <= buffer.length());
        Text t = new Text(buffer.substring(0, length));
        buffer = "";
        try {
            now = world(t);
            errorAt = -1;
            past.clear();
            saved = null;
            return now.books.size();
        } catch (Mistake m) {
            errorAt = m.position;
            return -10 - m.code;
        }
    }

    public int errorPosition() {
        return errorAt;
    }

    public int size(int what) {
        needed(what >= 0 && what <= 12);
        if (what >= 7 && what <= 11) {
            return (int) count(b -> b.state == what - 7);
        }
        int[] all = {now.open.size(), (int) now.open.stream().filter(o -> o).count(), now.vans.size(), now.books.size(),
            now.requests(), now.time, now.hold, 0, 0, 0, 0, 0, (int) count(b -> b.recalled)};
        return all[what];
    }

    public int book(int book, int what) {
        needBook(book);
        needed(what >= 0 && what <= 8);
        return now.tell(book, what);
    }

    public int van(int van, int what) {
        Van v = needVan(van);
        needed(what >= 0 && what <= 5);
        int[] all = {v.room, v.route.size(), v.at, v.here(), (int) count(b -> b.state == 1 && b.place == van),
            (int) v.route.stream().distinct().filter(s -> now.open.get(s)).count()};
        return all[what];
    }

    public int stop(int van, int stop) {
        Van v = needVan(van);
        needed(stop >= 0 && stop < v.route.size());
        return v.route.get(stop);
    }

    public int inVan(int van, int i) {
        needVan(van);
        int[] in = now.books.stream().filter(b -> b.state == 1 && b.place == van).mapToInt(b -> b.number).toArray();
        needed(i >= 0 && i < in.length);
        return in[i];
    }

    public int branch(int branch, int what) {
        needBranch(branch);
        needed(what >= 0 && what <= 5);
        int requests = 0;
        for (Book b : now.books) {
            for (int[] a : b.asked) {
                requests += a[1] == branch ? 1 : 0;
            }
        }
        int[] all = {now.open.get(branch) ? 1 : 0, (int) count(b -> b.state == 0 && b.place == branch),
            (int) count(b -> b.state == 2 && b.place == branch), requests, (int) count(b -> b.home == branch),
            (int) now.vans.stream().filter(v -> v.route.contains(branch)).count()};
        return all[what];
    }

    public int request(int book, int i, int what) {
        Book b = needBook(book);
        needed(i >= 0 && i < b.asked.size());
        needed(what >= 0 && what <= 2);
        int[] a = b.asked.get(i);
        return what < 2 ? a[what] : b.state == 2 && b.reader == a[0] ? 1 : 0;
    }

    public int placeOf(int book, int reader) {
        Book b = needBook(book);
        for (int i = 0; i < b.asked.size(); i++) {
            if (b.asked.get(i)[0] == reader) {
                return i;
            }
        }
        return -1;
    }

    public int requestsOf(int reader) {
        int n = 0;
        for (int i = 0; i < now.books.size(); i++) {
            n += placeOf(i, reader) == -1 ? 0 : 1;
        }
        return n;
    }

    public int legs(int branch, int other) {
        needBranch(branch);
        needBranch(other);
        return now.legs(branch, other);
    }

    public boolean wouldLoad(int book, int van) {
        Book b = needBook(book);
        Van v = needVan(van);
        return b.state == 0 && v.route.contains(b.place) && now.open.get(b.place) && now.loads(b, v, b.place);
    }

    public int comesIn(int van, int branch) {
        Van v = needVan(van);
        needBranch(branch);
        for (int t = 1; t <= 100; t++) {
            if (v.route.get((v.at + t) % v.route.size()) == branch) {
                return t;
            }
        }
        return -1;
    }

    public int meetIn(int van, int other) {
        Van v = needVan(van);
        Van o = needVan(other);
        needed(van != other);
        for (int t = 1; t <= 1000; t++) {
            if (v.route.get((v.at + t) % v.route.size()).equals(o.route.get((o.at + t) % o.route.size()))) {
                return t;
            }
        }
        return -1;
    }

    private int firstIn(Function<World, Boolean> test) {
        World w = now.copy();
        for (int t = 0; t <= 200; t++) {
            if (test.apply(w)) {
                return t;
            }
            w.tick();
        }
        return -1;
    }

    public int arrivesIn(int book) {
        needBook(book);
        return firstIn(w -> {
            Book b = w.books.get(book);
            return b.state == 2 || b.state == 0 && b.place == w.goal(b);
        });
    }

    public int heldIn(int book, int reader) {
        needBook(book);
        return firstIn(w -> w.books.get(book).state == 2 && w.books.get(book).reader == reader);
    }

    public int bookIn(int book, int what, int ticks) {
        needBook(book);
        needed(what >= 0 && what <= 8);
        legal(ticks >= 0 && ticks <= 200);
        World w = now.copy();
        for (int t = 0; t < ticks; t++) {
            w.tick();
        }
        return w.tell(book, what);
    }

    public int fullest() {
        int best = 0;
        for (int i = 0; i < now.vans.size(); i++) {
            best = van(i, 4) > van(best, 4) ? i : best;
        }
        return best;
    }

    public int mostWanted() {
        if (now.requests() == 0) {
            return -1;
        }
        int best = 0;
        for (int i = 0; i < now.books.size(); i++) {
            best = book(i, 4) > book(best, 4) ? i : best;
        }
        return best;
    }

    public int stranded() {
        return (int) count(b -> b.state == 0
            && (now.goal(b) == -1 || now.goal(b) != b.place && now.legs(b.place, now.goal(b)) == -1));
    }

    public int hub() {
        int best = -1;
        int most = -1;
        for (int b = 0; b < now.open.size(); b++) {
            if (now.open.get(b)) {
                World w = now.copy();
                w.open.set(b, false);
                int pairs = 0;
                for (int x = 0; x < now.open.size(); x++) {
                    for (int y = 0; y < now.open.size(); y++) {
                        if (x != y && x != b && y != b && now.legs(x, y) != -1 && w.legs(x, y) == -1) {
                            pairs++;
                        }
                    }
                }
                if (pairs > most) {
                    most = pairs;
                    best = b;
                }
            }
        }
        return best;
    }

    public double loaded() {
        double room = now.vans.stream().mapToInt(v -> v.room).sum();
        return size(8) / room;
    }

    public float lostShare() {
        return now.books.isEmpty() ? 0 : (float) size(11) / (float) now.books.size();
    }

    private void record() {
        past.add(now.copy());
        if (past.size() > 10) {
            past.remove(0);
        }
    }

    public int ask(int book, int reader, int branch) {
        Book b = needBook(book);
        needBranch(branch);
        legal(reader >= 0 && reader <= 99);
        if (now.requests() == 40) {
            return -2;
        }
        if (placeOf(book, reader) != -1 || b.state == 3 && b.reader == reader) {
            return -3;
        }
        record();
        b.asked.add(new int[] {reader, branch});
        return b.asked.size() - 1;
    }

    public int cancel(int book, int reader) {
        Book b = needBook(book);
        int place = placeOf(book, reader);
        if (place == -1) {
            return -2;
        }
        record();
        b.asked.remove(place);
        if (b.state == 2 && b.reader == reader) {
            now.shelf(b, b.place);
        }
        return place;
    }

    public int recall(int book) {
        Book b = needBook(book);
        if (b.recalled) {
            return -2;
        }
        if (b.state == 0 && b.place == b.home) {
            return -3;
        }
        record();
        int state = b.state;
        b.recalled = true;
        if (state == 2) {
            now.shelf(b, b.place);
        }
        return state;
    }

    public int take(int book, int reader) {
        Book b = needBook(book);
        if (b.state != 2 || b.reader != reader) {
            return -2;
        }
        record();
        b.asked.remove(placeOf(book, reader));
        b.state = 3;
        return b.place;
    }

    public int giveBack(int book, int branch) {
        Book b = needBook(book);
        needBranch(branch);
        if (b.state != 3) {
            return -2;
        }
        if (!now.open.get(branch)) {
            return -3;
        }
        record();
        int reader = b.reader;
        now.shelf(b, branch);
        return reader;
    }

    public int lose(int van) {
        needVan(van);
        record();
        int n = 0;
        for (Book b : now.books) {
            if (b.state == 1 && b.place == van) {
                b.state = 4;
                n++;
            }
        }
        return n;
    }

    public int find(int book, int branch) {
        Book b = needBook(book);
        needBranch(branch);
        if (b.state != 4) {
            return -2;
        }
        record();
        now.shelf(b, branch);
        return now.goal(b) + 1;
    }

    public int close(int branch) {
        needBranch(branch);
        if (!now.open.get(branch)) {
            return -2;
        }
        record();
        now.open.set(branch, false);
        for (Book b : now.books) {
            if (b.state == 2 && b.place == branch) {
                now.shelf(b, branch);
            }
        }
        return branch(branch, 1);
    }

    public int open(int branch) {
        needBranch(branch);
        if (now.open.get(branch)) {
            return -2;
        }
        record();
        now.open.set(branch, true);
        return (int) count(b -> b.state == 0 && b.place == branch && now.goal(b) == branch);
    }

    public int setHold(int hold) {
        legal(hold >= 1 && hold <= 50);
        record();
        int before = now.hold;
        now.hold = hold;
        return before;
    }

    public int run(int ticks) {
        legal(ticks >= 1 && ticks <= 99);
        if (now.time + ticks > 9999) {
            return -2;
        }
        record();
        int anew = 0;
        for (int t = 0; t < ticks; t++) {
            anew += now.tick();
        }
        return anew;
    }

    public int format(int book) {
        Book b = needBook(book);
        text = "" + book + "@>!-?".charAt(b.state)
            + (b.state < 3 ? "" + b.place : b.state == 3 ? "" + b.reader : "") + (b.recalled ? "r" : "");
        for (int[] a : b.asked) {
            text += " " + a[0] + ":" + a[1];
        }
        return text.length();
    }

    public int formattedByte(int index) {
        return index >= 0 && index < text.length() ? text.charAt(index) : -1;
    }

    public int undoCount() {
        return past.size();
    }

    public int undo() {
        if (past.isEmpty()) {
            return -1;
        }
        now = past.remove(past.size() - 1);
        return past.size();
    }

    public void saveSnapshot() {
        saved = now.copy();
    }

    public boolean restoreSnapshot() {
        if (saved == null) {
            return false;
        }
        now = saved.copy();
        past.clear();
        return true;
    }

    public int query(int length) {
        legal(length >= 0 && length <= 200 && length <= buffer.length());
        Text t = new Text(buffer.substring(0, length));
        buffer = "";
        errorAt = -1;
        try {
            boolean many = t.sees("many");
            if (!many) {
                t.pass("first");
            } else {
                t.next++;
            }
            Function<Book, Boolean> test = test(t, 0);
            if (!t.sees("")) {
                throw t.mistake(1);
            }
            int[] found = now.books.stream().filter(b -> test.apply(b)).mapToInt(b -> b.number).toArray();
            return many ? found.length : found.length == 0 ? -1 : found[0];
        } catch (Mistake m) {
            errorAt = m.position;
            return -1000000000 - m.code;
        }
    }

    private Function<Book, Boolean> test(Text t, int open) {
        List<Function<Book, Boolean>> parts = new ArrayList<>();
        parts.add(conjunction(t, open));
        while (t.sees("or")) {
            t.next++;
            parts.add(conjunction(t, open));
        }
        return b -> parts.stream().anyMatch(p -> p.apply(b));
    }

    private Function<Book, Boolean> conjunction(Text t, int open) {
        List<Function<Book, Boolean>> parts = new ArrayList<>();
        parts.add(factor(t, open));
        while (t.sees("and")) {
            t.next++;
            parts.add(factor(t, open));
        }
        return b -> parts.stream().allMatch(p -> p.apply(b));
    }

    private Function<Book, Boolean> factor(Text t, int open) {
        if ((t.sees("not") || t.sees("(")) && open == 6) {
            throw t.mistake(3);
        }
        if (t.sees("not")) {
            t.next++;
            Function<Book, Boolean> inner = factor(t, open + 1);
            return b -> !inner.apply(b);
        }
        if (t.sees("(")) {
            t.next++;
            Function<Book, Boolean> inner = test(t, open + 1);
            t.pass(")");
            return inner;
        }
        Function<Book, Integer> left = value(t);
        String sign = t.tokens.get(t.next);
        if (!sign.equals("<") && !sign.equals("=") && !sign.equals(">")) {
            throw t.mistake(1);
        }
        t.next++;
        Function<Book, Integer> right = value(t);
        return b -> {
            int order = left.apply(b).compareTo(right.apply(b));
            return sign.equals("<") ? order < 0 : sign.equals("=") ? order == 0 : order > 0;
        };
    }

    private Function<Book, Integer> value(Text t) {
        if (t.seesNumber()) {
            int n = t.number(0, 9999);
            return b -> n;
        }
        List<String> names = List.of("book", "state", "place", "home", "goal", "queue", "recalled");
        int which = names.indexOf(t.tokens.get(t.next));
        if (which == -1) {
            throw t.mistake(1);
        }
        t.next++;
        return b -> {
            int[] all = {b.number, b.state, now.tell(b.number, 1), b.home, now.goal(b), b.asked.size(), b.recalled ? 1 : 0};
            return (which == 2 || which == 4) && all[which] == -1 ? 99 : all[which];
        };
    }
}
