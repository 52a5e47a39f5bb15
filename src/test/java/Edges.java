import java.util.ArrayList;
import java.util.List;

/**
 * What the tests of the document's boundary cases share: cases with names, films, and calls that are refused. They
 * extend it to use its methods by their plain names.
 */
abstract class Edges {
    static final Class<?> INDEX = IndexOutOfBoundsException.class;
    static final Class<?> ARGUMENT = IllegalArgumentException.class;
    static final Class<?> STATE = IllegalStateException.class;
    static final int NONE = UnitKitchens.NONE;
    static final int MIN = Integer.MIN_VALUE;
    static final int MAX = Integer.MAX_VALUE;

    private static int edges = 0;
    private static int wrong = 0;
    private static String name = "";

    /** A call of the face. */
    interface Call {
        long on(UnitKitchens film);
    }

    /** A call of the face with one argument left open. */
    interface CallWith {
        long on(UnitKitchens film, int value);
    }

    /** Makes the same film each time. */
    interface Maker {
        UnitKitchens make();
    }

    // ---- cases and what must hold in them

    /** One boundary case: the part of the document that names it, and what it says of it. */
    static void edge(String where, String what, Runnable look) {
        name = where + ", " + what;
        edges++;
        try {
            look.run();
        } catch (RuntimeException e) {
            fail("threw " + e.getClass().getName());
        }
    }

    /** One value of a case that is looked at with several. */
    static void of(Object value, Runnable look) {
        String before = name;
        name = before + ", " + value;
        look.run();
        name = before;
    }

    static void is(long got, long due) {
        if (got != due) {
            fail("answered " + got + ", due is " + due);
        }
    }

    static void are(List<Long> got, long... due) {
        List<Long> all = new ArrayList<>();
        for (long value : due) {
            all.add(value);
        }
        if (!got.equals(all)) {
            fail("answered " + got + ", due is " + all);
        }
    }

    /** A refused call throws just this exception, and the film is afterwards like one on which it was not called. */
    static void refused(Class<?> due, Maker maker, Call call) {
        UnitKitchens film = maker.make();
        String got = outcome(film, call);
        if (!got.equals(due.getName())) {
            fail(got + ", due is " + due.getName());
        } else if (!allOf(film).equals(allOf(maker.make()))) {
            fail("threw " + got + ", but changed something");
        }
    }

    static void refusedFor(Class<?> due, Maker maker, CallWith call, int... values) {
        for (int value : values) {
            of(value, () -> refused(due, maker, film -> call.on(film, value)));
        }
    }

    /** The first value on either side of a range and the farthest ones are refused. */
    static void refusedOutside(Class<?> due, Maker maker, CallWith call, int least, int most) {
        refusedFor(due, maker, call, least - 1, most + 1, MIN, MAX);
    }

    /** A call that tells changes nothing, and saves nothing. */
    static void onlyTells(Maker maker, Call call) {
        UnitKitchens film = maker.make();
        call.on(film);
        if (!allOf(film).equals(allOf(maker.make()))) {
            fail("a call that only tells changed something");
        }
    }

    /** An undoable call saves the state from before it, that undo() brings back whole; the buffer is left as it is. */
    static void undoable(Maker maker, Call call) {
        UnitKitchens film = maker.make();
        int saved = film.count(16);
        if (saved > 5) {
            fail("the film has no room for one more saved state");
        }
        call.on(film);
        is(film.count(16), saved + 1);
        is(film.undo(), saved);
        film.clearBuffer();
        UnitKitchens twin = maker.make();
        twin.clearBuffer();
        if (!allOf(film).equals(allOf(twin))) {
            fail("undo() did not bring back all");
        }
    }

    static void end() {
        System.out.println(wrong == 0 ? edges + " edges hold" : wrong + " checks of " + edges + " edges fail");
        if (wrong != 0) {
            System.exit(1);
        }
    }

    private static void fail(String what) {
        wrong++;
        int line = 0;
        for (StackTraceElement frame : new Throwable().getStackTrace()) {
            if (line == 0 && !frame.getClassName().equals("Edges")) {
                line = frame.getLineNumber();
            }
        }
        System.out.println(name + " (line " + line + "): " + what);
    }

    private static String outcome(UnitKitchens film, Call call) {
        try {
            return "answered " + call.on(film);
        } catch (RuntimeException e) {
            return e.getClass().getName();
        }
    }

    /** All that later calls can tell of a film, its saved states too; the film is used up by it. */
    static List<Long> allOf(UnitKitchens film) {
        List<Long> all = new ArrayList<>();
        int saved = film.count(16);
        for (int i = 0; i <= saved; i++) {
            addAnswers(all, film);
            if (i < saved) {
                film.undo();
            }
        }
        all.add((long) film.clearBuffer());
        return all;
    }

    private static void addAnswers(List<Long> all, UnitKitchens film) {
        all.add(film.digest());
        for (int minutes : new int[] {1, 2, 6, 20, 41, 61, 200}) {
            for (int what = 0; what < 4; what++) {
                all.add((long) film.ifPassed(minutes, what));
            }
        }
        all.add((long) film.callsIn(1000, 0));
        all.add((long) film.callsIn(1000, 1));
        all.add((long) film.enoughGrace(200));
    }

    // ---- properties

    static List<Long> place(UnitKitchens film, int place) {
        return listed(7, what -> film.place(place, what));
    }

    static List<Long> unit(UnitKitchens film, int unit) {
        return listed(12, what -> film.unit(unit, what));
    }

    static List<Long> kitchen(UnitKitchens film, int kitchen) {
        return listed(12, what -> film.kitchen(kitchen, what));
    }

    static List<Long> lorry(UnitKitchens film, int lorry) {
        return listed(9, what -> film.lorry(lorry, what));
    }

    static List<Long> counts(UnitKitchens film) {
        return listed(17, film::count);
    }

    private static List<Long> listed(int many, java.util.function.IntToLongFunction property) {
        List<Long> all = new ArrayList<>();
        for (int what = 0; what < many; what++) {
            all.add(property.applyAsLong(what));
        }
        return all;
    }

    // ---- films

    /** Places at (0, 0), (3, 4), (0, 0) and (99, 99), and nothing else. */
    static UnitKitchens places() {
        UnitKitchens film = new UnitKitchens();
        film.addPlace(0, 0);
        film.addPlace(3, 4);
        film.addPlace(0, 0);
        film.addPlace(99, 99);
        return film;
    }

    /** Those places; a kitchen with 500 of each ingredient that cooks 20 meals in a minute, and a lorry, at place 0. */
    static UnitKitchens kit() {
        UnitKitchens film = places();
        film.addKitchen(0);
        film.addLorry(0);
        for (int what = 0; what < 3; what++) {
            film.stock(0, what, 500);
        }
        film.set(4, 20);
        return film;
    }

    /**
     * Those places, with something of everything: kitchen 0 at place 0 with meals and a full pot, kitchen 1 at place 1;
     * lorry 0 stands at place 0 with meals, lorry 1 drives with meals, lorry 2 stands empty at place 1; meals are owed
     * to unit 0 at place 1 and unit 1 at place 0, unit 2 has wrapped, unit 3 has joined, nothing is owed to unit 4 at
     * place 0. There are five saved states, and four characters in the buffer.
     */
    static UnitKitchens busy() {
        UnitKitchens film = places();
        film.addKitchen(0);
        film.addKitchen(1);
        film.addLorry(0);
        film.addLorry(0);
        film.addLorry(1);
        for (int what = 0; what < 3; what++) {
            film.stock(0, what, 400);
            film.stock(1, what, 7);
        }
        film.addUnit(1, 20, 8, 3, 30);
        film.addUnit(0, 10, 4, 2, 60);
        film.addUnit(0, 5, 1, 500, 30);
        film.addUnit(0, 6, 2, 400, 30);
        film.addUnit(0, 7, 2, 450, 45);
        film.cook(0, 0, 20);
        film.pass(4);
        film.load(0, 0, 0, 3);
        film.load(1, 0, 0, 2);
        film.drive(1, 3);
        film.cook(0, 1, 20);
        film.pass(2);
        film.load(0, 0, 1, 2);
        film.addUnit(0, 30, 20, 1, 30);
        film.pass(1);
        film.load(0, 0, 1, 2);
        film.join(5, 1);
        film.wrap(2);
        film.join(3, 1);
        type(film, "0:5g");
        film.set(0, 20);
        film.undo();
        return film;
    }

    /** 8 places, 3 kitchens, 4 lorries and 12 units, all at place 0; six saved states. */
    static UnitKitchens full() {
        UnitKitchens film = places();
        for (int i = 4; i < 8; i++) {
            film.addPlace(i, i);
        }
        for (int i = 0; i < 3; i++) {
            film.addKitchen(0);
        }
        for (int i = 0; i < 4; i++) {
            film.addLorry(0);
        }
        for (int i = 0; i < 12; i++) {
            film.addUnit(0, 10, 5, 1, 30);
        }
        return film;
    }

    /** The places, in this minute. */
    static UnitKitchens atMinute(int minute) {
        UnitKitchens film = places();
        passAll(film, minute);
        return film;
    }

    static void passAll(UnitKitchens film, int minutes) {
        for (int left = minutes; left > 0; left -= 200) {
            film.pass(Math.min(200, left));
        }
    }

    /** Cooks meals, and lets the minutes pass that it takes. */
    static void cookAll(UnitKitchens film, int kitchen, int dish, int many) {
        film.pass(film.cook(kitchen, dish, many));
    }

    static void type(UnitKitchens film, String text) {
        for (int i = 0; i < text.length(); i++) {
            film.append(text.charAt(i));
        }
    }

    static UnitKitchens typed(String text) {
        UnitKitchens film = places();
        type(film, text);
        return film;
    }
}
