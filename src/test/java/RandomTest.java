import java.lang.reflect.InvocationTargetException;
import java.lang.reflect.Method;
import java.util.ArrayList;
import java.util.Arrays;
import java.util.Comparator;
import java.util.List;
import java.util.Random;

/** Long runs of random calls (always the same ones), whose answers are compared with those of Model. */
public final class RandomTest {
    private static final int RUNS = 600;
    /** As many as an object is used for. */
    private static final int CALLS = 512;
    private static final String[] OFTEN = {
        "run", "run", "run", "run", "ask", "ask", "ask", "close", "open", "recall", "take", "take", "giveBack", "lose",
        "find", "cancel", "setHold", "undo", "book", "book", "wouldLoad", "format", "stranded", "arrivesIn", "heldIn",
        "bookIn", "hub", "legs", "inVan", "request", "open"};

    private final Random random;
    private final BranchCourier courier = new BranchCourier();
    private final Model model = new Model();
    private final List<String> told = new ArrayList<>();
    private int calls = 0;
    private static final Method[] METHODS = methods();

    private RandomTest(long seed) {
        random = new Random(seed);
    }

    private static Method[] methods() {
        Method[] all = Arrays.stream(BranchCourier.class.getDeclaredMethods())
            .filter(m -> java.lang.reflect.Modifier.isPublic(m.getModifiers())).toArray(Method[]::new);
        Arrays.sort(all, Comparator.comparing(Method::getName));
        return all;
    }

    public static void main(String[] args) {
        Due.promise(0, "random runs");
        for (int run = 0; run < RUNS; run++) {
            RandomTest test = new RandomTest(run);
            boolean right = test.play();
            Due.check("run " + run, right, "goes another way than the model: " + test.told);
            if (!right) {
                break;
            }
        }
        Due.end();
    }

    private boolean play() {
        if (random.nextInt(10) > 0 && !text(random.nextInt(20) == 0 ? broken(library()) : library(), "load")) {
            return false;
        }
        while (calls < CALLS) {
            int kind = random.nextInt(100);
            boolean right;
            if (kind == 0 && random.nextInt(4) == 0) {
                right = text(library(), "load");
            } else if (kind == 1) {
                right = text(broken(library()), "load");
            } else if (kind < 6) {
                String query = query();
                right = text(random.nextInt(4) == 0 ? broken(query) : query, "query");
            } else if (kind < 60) {
                right = any(OFTEN[random.nextInt(OFTEN.length)]);
            } else if (kind < 80) {
                right = any(METHODS[random.nextInt(METHODS.length)].getName());
            } else {
                right = likely();
            }
            if (!right) {
                return false;
            }
        }
        return true;
    }

    /** A call of an operation that is likely to succeed. */
    private boolean likely() {
        int books = model.size(3);
        if (books == 0) {
            return any("run");
        }
        int book = random.nextInt(books);
        int branch = random.nextInt(model.size(0));
        switch (model.book(book, 0)) {
            case 2:
                return random.nextInt(3) == 0 ? same("run", 1 + random.nextInt(5)) : same("take", book, model.book(book, 6));
            case 3:
                return same("giveBack", book, branch);
            case 4:
                return same("find", book, branch);
            default:
                return random.nextInt(3) == 0 ? same("ask", book, random.nextInt(12), branch)
                    : random.nextInt(8) == 0 ? same("recall", book) : same("run", 1 + random.nextInt(4));
        }
    }

    private boolean any(String name) {
        if (name.equals("load") || name.equals("saveSnapshot") && random.nextInt(2) == 0) {
            return same("size", random.nextInt(13));
        }
        // Few branches are closed at a time, else no book would come far.
        if (name.equals("close") && random.nextInt(model.size(1) * 3 > model.size(0) * 2 ? 2 : 12) > 0
            || (name.equals("restoreSnapshot") || name.equals("lose")) && random.nextInt(3) > 0) {
            return same("undoCount");
        }
        for (Method m : METHODS) {
            if (m.getName().equals(name)) {
                int[] args = new int[m.getParameterCount()];
                for (int i = 0; i < args.length; i++) {
                    args[i] = argument(name, i);
                }
                return same(name, args);
            }
        }
        return false;
    }

    private int argument(String name, int i) {
        if (random.nextInt(60) == 0) {
            int[] wild = {-1, -2, Integer.MIN_VALUE, Integer.MAX_VALUE, 7, 13, 20, 40, 50, 51, 99, 100, 200, 201, 1000000};
            return wild[random.nextInt(wild.length)];
        }
        if (name.equals("feed")) {
            return random.nextInt();
        }
        if (name.equals("run")) {
            return random.nextInt(12) == 0 ? 1 + random.nextInt(99) : 1 + random.nextInt(6);
        }
        if (name.equals("bookIn") && i == 2) {
            return random.nextInt(3) == 0 ? random.nextInt(202) : random.nextInt(20);
        }
        if (name.equals("setHold")) {
            return 1 + random.nextInt(8);
        }
        if (name.equals("formattedByte")) {
            return random.nextInt(24);
        }
        if (name.equals("query")) {
            return random.nextInt(21);
        }
        boolean book = i == 0 && List.of("book", "request", "placeOf", "wouldLoad", "arrivesIn", "heldIn", "bookIn", "ask",
            "cancel", "recall", "take", "giveBack", "find", "format").contains(name);
        if (book) {
            return random.nextInt(Math.max(1, model.size(3)) + (random.nextInt(10) == 0 ? 1 : 0));
        }
        boolean reader = name.equals("requestsOf")
            || i == 1 && List.of("placeOf", "heldIn", "ask", "cancel", "take").contains(name);
        if (reader) {
            return random.nextInt(12);
        }
        boolean van = i == 0 && List.of("van", "stop", "inVan", "comesIn", "meetIn", "lose").contains(name)
            || i == 1 && List.of("wouldLoad", "meetIn").contains(name);
        if (name.equals("inVan") || name.equals("request")) {
            return random.nextInt(name.equals("request") ? 3 : 2);
        }
        if (van) {
            return random.nextInt(model.size(2) + (random.nextInt(10) == 0 ? 1 : 0));
        }
        boolean branch = i == 0 && List.of("branch", "legs", "close", "open").contains(name)
            || i == 1 && List.of("legs", "comesIn", "giveBack", "find").contains(name) || name.equals("ask");
        if (branch) {
            return random.nextInt(model.size(0) + (random.nextInt(10) == 0 ? 1 : 0));
        }
        return random.nextInt(name.equals("size") ? 13 : name.equals("book") || name.equals("bookIn") ? 9 : 7);
    }

    private boolean text(String text, String reader) {
        String padded = text;
        for (int i = 0; i < padded.length(); i += 20) {
            if (!same("feed", Due.four(padded, i), Due.four(padded, i + 4), Due.four(padded, i + 8),
                Due.four(padded, i + 12), Due.four(padded, i + 16))) {
                return false;
            }
        }
        // What random feeds left in the buffer comes first, so that the text is then not the one that is read.
        int cut = random.nextInt(30) == 0 ? random.nextInt(text.length() + 1) : text.length();
        return same(reader, cut) && same("errorPosition") && same("size", random.nextInt(13));
    }

    private boolean same(String name, int... args) {
        if (calls >= CALLS) {
            return true;
        }
        calls++;
        told.add(name + Arrays.toString(args));
        String got = answer(courier, name, args);
        String want = answer(model, name, args);
        told.add(got);
        if (!got.equals(want)) {
            told.add("due is " + want);
            return false;
        }
        return true;
    }

    private static String answer(Object object, String name, int[] args) {
        try {
            Class<?>[] types = new Class<?>[args.length];
            Arrays.fill(types, int.class);
            Object[] boxed = new Object[args.length];
            for (int i = 0; i < args.length; i++) {
                boxed[i] = args[i];
            }
            return String.valueOf(object.getClass().getMethod(name, types).invoke(object, boxed));
        } catch (InvocationTargetException e) {
            return "throws " + e.getCause().getClass().getName();
        } catch (ReflectiveOperationException e) {
            return "no such call";
        }
    }

    private String library() {
        StringBuilder t = new StringBuilder();
        int branches = 2 + random.nextInt(5);
        t.append("branches ").append(branches).append(gap()).append(";");
        int vans = 1 + random.nextInt(4);
        boolean chain = random.nextInt(4) == 0;
        for (int v = 0; v < vans; v++) {
            t.append("van").append(gap()).append(1 + random.nextInt(random.nextInt(2) == 0 ? 2 : 9));
            route(t, branches, v, chain);
            t.append(";");
        }
        int books = random.nextInt(random.nextInt(2) == 0 ? 6 : 21);
        for (int b = 0; b < books; b++) {
            t.append("book").append(gap()).append(random.nextInt(branches)).append(";");
        }
        if (random.nextInt(3) > 0) {
            t.append("hold ").append(1 + random.nextInt(random.nextInt(8) == 0 ? 50 : 6)).append(";");
        }
        int asks = books == 0 ? 0 : random.nextInt(random.nextInt(3) == 0 ? 41 : 8);
        List<String> asked = new ArrayList<>();
        for (int a = 0; a < asks; a++) {
            String ask = random.nextInt(books) + " " + random.nextInt(random.nextInt(2) == 0 ? 100 : 8);
            if (!asked.contains(ask) || random.nextInt(40) == 0) {
                asked.add(ask);
                t.append("ask").append(gap()).append(ask).append(" ").append(random.nextInt(branches)).append(";");
            }
        }
        return t.toString();
    }

    private void route(StringBuilder t, int branches, int van, boolean chain) {
        if (chain) {
            t.append(" ").append(van % branches).append(" ").append((van + 1) % branches);
            return;
        }
        int stops = 2 + random.nextInt(random.nextInt(2) == 0 ? 2 : 7);
        int first = random.nextInt(branches);
        int last = first;
        t.append(" ").append(first);
        for (int s = 1; s < stops; s++) {
            int next = random.nextInt(branches);
            boolean ends = s == stops - 1;
            for (int i = 0; i < 9 && (next == last || ends && next == first); i++) {
                next = (next + 1) % branches;
            }
            if (ends && next == first || next == last) {
                return;
            }
            t.append(random.nextInt(9) == 0 ? " 00" : gap()).append(next);
            last = next;
        }
    }

    private String gap() {
        return random.nextInt(12) == 0 ? "\n" : random.nextInt(9) == 0 ? "  " : " ";
    }

    private String broken(String text) {
        StringBuilder t = new StringBuilder(text);
        int at = random.nextInt(t.length());
        String[] pieces = {";", "van", "book", "ask", "hold", "7", "0", " 9 ", "(", "not ", "\u00e9", "A", "10000", " ",
            "99999999999999999999", "and", "many", "van 1 0 1;", "book 0;", "ask 0 50 1;"};
        String piece = pieces[random.nextInt(pieces.length)];
        switch (random.nextInt(4)) {
            case 0:
                t.deleteCharAt(at);
                break;
            case 1:
                t.setLength(at);
                break;
            case 2:
                int next = Math.max(t.indexOf(";", at), 0);
                t.insert(next == 0 ? 0 : next + 1, piece);
                break;
            default:
                t.insert(at, piece);
                break;
        }
        return t.length() == 0 ? " " : t.toString();
    }

    private String query() {
        StringBuilder t = new StringBuilder(random.nextInt(2) == 0 ? "many " : "first ");
        test(t, random.nextInt(9));
        return t.length() > 220 ? t.substring(0, 200) : t.toString();
    }

    private void test(StringBuilder t, int depth) {
        for (int i = 0; i < 3; i++) {
            int kind = random.nextInt(5);
            if (kind == 0 && depth > 0) {
                t.append("not ");
                factor(t, depth - 1);
            } else {
                factor(t, depth);
            }
            if (random.nextInt(2) == 0) {
                return;
            }
            t.append(random.nextInt(2) == 0 ? " and " : " or ");
        }
        value(t);
        t.append("=");
        value(t);
    }

    private void factor(StringBuilder t, int depth) {
        int kind = random.nextInt(3);
        if (kind == 0 && depth > 0) {
            t.append("not ");
            factor(t, depth - 1);
        } else if (kind == 1 && depth > 0) {
            t.append("(");
            test(t, depth - 1);
            t.append(")");
        } else {
            value(t);
            t.append(gap()).append("<=>".charAt(random.nextInt(3)));
            value(t);
        }
    }

    private void value(StringBuilder t) {
        String[] names = {"book", "state", "place", "home", "goal", "queue", "recalled"};
        int which = random.nextInt(12);
        t.append(" ").append(which < 7 ? names[which] : which == 7 ? "99" : String.valueOf(random.nextInt(6)));
    }
}
