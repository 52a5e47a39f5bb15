/** The boundary cases that the promises 1 to 16 of ../shared/DOC.md name: what changes the film, but for texts and undo. */
public final class UnitKitchensChangesEdgesTest extends Edges {
    public static void main(String[] args) {
        newObject();
        addPlace();
        addKitchen();
        addLorry();
        set();
        stock();
        stockIsFull();
        cook();
        cookOutOfStock();
        cookMinutes();
        load();
        loadAsMuchAsThereIs();
        unload();
        drive();
        addUnit();
        addUnitFully();
        split();
        splitPeople();
        join();
        joinOwed();
        move();
        wrap();
        pass();
        end();
    }

    // ---- promise 1

    private static void newObject() {
        edge("promise 1", "without places, in the minute 0, nothing counted, no saved state", () -> {
            are(counts(new UnitKitchens()), 0, 0, 0, 0, 0, 0, 0, 0, 0, 0, 0, 0, 0, 0, 0, 0, 0);
            refused(INDEX, UnitKitchens::new, x -> x.place(0, 0));
            refused(STATE, UnitKitchens::new, UnitKitchens::undo);
        });
        edge("promise 1", "with an empty buffer", () -> {
            UnitKitchens x = new UnitKitchens();
            is(x.firstError(), 0);
            is(x.clearBuffer(), 0);
            refused(ARGUMENT, UnitKitchens::new, UnitKitchens::addSheet);
        });
        edge("promise 1", "a second object has nothing of the first", () -> {
            UnitKitchens x = busy();
            UnitKitchens y = new UnitKitchens();
            x.pass(10);
            x.append('0');
            is(allOf(y).equals(allOf(new UnitKitchens())) ? 1 : 0, 1);
        });
    }

    // ---- promises 2 to 5

    private static void addPlace() {
        edge("promise 2", "x is 0 to 99", () -> {
            UnitKitchens x = new UnitKitchens();
            is(x.addPlace(0, 5), 0);
            is(x.addPlace(99, 5), 1);
            are(place(x, 0), 0, 5, 0, 0, 0, 0, 0);
            are(place(x, 1), 99, 5, 0, 0, 0, 0, 0);
            refusedOutside(ARGUMENT, Edges::busy, (film, v) -> film.addPlace(v, 5), 0, 99);
        });
        edge("promise 2", "y is 0 to 99", () -> {
            UnitKitchens x = new UnitKitchens();
            is(x.addPlace(5, 0), 0);
            is(x.addPlace(5, 99), 1);
            are(place(x, 0), 5, 0, 0, 0, 0, 0, 0);
            are(place(x, 1), 5, 99, 0, 0, 0, 0, 0);
            refusedOutside(ARGUMENT, Edges::busy, (film, v) -> film.addPlace(5, v), 0, 99);
        });
        edge("promise 2", "the 8th place is added, a 9th is refused", () -> {
            UnitKitchens x = full();
            x.undo();
            UnitKitchens y = places();
            for (int i = 4; i < 8; i++) {
                is(y.addPlace(i, i), i);
            }
            refused(STATE, Edges::full, film -> film.addPlace(0, 0));
            y.undo();
            is(y.count(0), 7);
            is(y.addPlace(1, 2), 7);
        });
        edge("promise 2", "of both exceptions that of the argument is thrown", () -> {
            refused(ARGUMENT, Edges::full, film -> film.addPlace(100, 0));
            refused(ARGUMENT, Edges::full, film -> film.addPlace(0, -1));
        });
        edge("promise 2", "undoable, the first place too", () -> {
            undoable(UnitKitchens::new, film -> film.addPlace(0, 0));
            undoable(Edges::busy, film -> film.addPlace(99, 99));
        });
    }

    private static void addKitchen() {
        edge("promise 3", "the first and the last place are taken, none beside them", () -> {
            UnitKitchens x = places();
            is(x.addKitchen(0), 0);
            is(x.addKitchen(3), 1);
            is(x.kitchen(0, 0), 0);
            is(x.kitchen(1, 0), 3);
            refusedOutside(INDEX, Edges::busy, (film, v) -> film.addKitchen(v), 0, 3);
            refusedFor(INDEX, UnitKitchens::new, (film, v) -> film.addKitchen(v), 0, -1, 1);
        });
        edge("promise 3", "the last of 8 places", () -> {
            UnitKitchens x = places();
            for (int i = 4; i < 8; i++) {
                x.addPlace(i, i);
            }
            is(x.addKitchen(7), 0);
            refusedOutside(INDEX, Edges::full, (film, v) -> film.addKitchen(v), 0, 7);
        });
        edge("promise 3", "the 3rd kitchen is added, a 4th is refused", () -> {
            UnitKitchens x = busy();
            is(x.addKitchen(0), 2);
            refused(STATE, Edges::full, film -> film.addKitchen(0));
            x.undo();
            is(x.count(1), 2);
            is(x.addKitchen(1), 2);
        });
        edge("promise 3", "of both exceptions that of the index is thrown", () ->
                refusedOutside(INDEX, Edges::full, (film, v) -> film.addKitchen(v), 0, 7));
        edge("promise 3", "undoable", () -> undoable(Edges::busy, film -> film.addKitchen(3)));
    }

    private static void addLorry() {
        edge("promise 4", "the first and the last place are taken, none beside them", () -> {
            UnitKitchens x = places();
            is(x.addLorry(0), 0);
            is(x.addLorry(3), 1);
            is(x.lorry(0, 0), 0);
            is(x.lorry(1, 0), 3);
            refusedOutside(INDEX, Edges::busy, (film, v) -> film.addLorry(v), 0, 3);
            refusedFor(INDEX, UnitKitchens::new, (film, v) -> film.addLorry(v), 0, -1, 1);
        });
        edge("promise 4", "the last of 8 places", () -> {
            UnitKitchens x = places();
            for (int i = 4; i < 8; i++) {
                x.addPlace(i, i);
            }
            is(x.addLorry(7), 0);
            refusedOutside(INDEX, Edges::full, (film, v) -> film.addLorry(v), 0, 7);
        });
        edge("promise 4", "the 4th lorry is added, without meals, a 5th is refused", () -> {
            UnitKitchens x = busy();
            is(x.addLorry(0), 3);
            are(lorry(x, 3), 0, NONE, 0, 0, 0, 0, NONE, 0, 0);
            refused(STATE, Edges::full, film -> film.addLorry(0));
            x.undo();
            is(x.count(2), 3);
            is(x.addLorry(1), 3);
        });
        edge("promise 4", "of both exceptions that of the index is thrown", () ->
                refusedOutside(INDEX, Edges::full, (film, v) -> film.addLorry(v), 0, 7));
        edge("promise 4", "undoable", () -> undoable(Edges::busy, film -> film.addLorry(3)));
    }

    private static void set() {
        edge("promise 5", "the first and the last setting are taken, none beside them", () -> {
            UnitKitchens x = new UnitKitchens();
            is(x.set(0, 11), 10);
            is(x.set(5, 12), 120);
            is(x.setting(0), 11);
            is(x.setting(5), 12);
            refusedOutside(INDEX, Edges::busy, (film, v) -> film.set(v, 15), 0, 5);
        });
        edge("promise 5", "of both exceptions that of the index is thrown", () ->
                refusedOutside(INDEX, Edges::busy, (film, v) -> film.set(v, -1), 0, 5));
        edge("promise 5", "the value that it has is taken, and saved", () -> {
            UnitKitchens x = new UnitKitchens();
            is(x.set(1, 15), 15);
            is(x.count(16), 1);
            undoable(Edges::busy, film -> film.set(1, 15));
        });
        edge("promise 5", "undoable", () -> undoable(Edges::busy, film -> film.set(5, 10)));
    }

    // ---- promise 6

    private static void stock() {
        edge("promise 6", "the first and the last kitchen are taken, none beside them", () -> {
            UnitKitchens x = busy();
            is(x.stock(0, 2, 1), 381);
            is(x.stock(1, 2, 1), 8);
            refusedOutside(INDEX, Edges::busy, (film, v) -> film.stock(v, 0, 1), 0, 1);
            refusedOutside(INDEX, Edges::full, (film, v) -> film.stock(v, 0, 1), 0, 2);
            refusedFor(INDEX, Edges::places, (film, v) -> film.stock(v, 0, 1), 0, -1, 1);
        });
        edge("promise 6", "what is 0 to 2", () -> {
            UnitKitchens x = full();
            is(x.stock(2, 0, 3), 3);
            is(x.stock(2, 2, 4), 4);
            are(kitchen(x, 2), 0, 3, 0, 4, NONE, 0, 0, 0, 0, NONE, 0, 0);
            refusedOutside(ARGUMENT, Edges::busy, (film, v) -> film.stock(0, v, 1), 0, 2);
        });
        edge("promise 6", "many is 1 to 500", () -> {
            UnitKitchens x = full();
            is(x.stock(0, 0, 1), 1);
            is(x.stock(0, 1, 500), 500);
            refusedOutside(ARGUMENT, Edges::busy, (film, v) -> film.stock(1, 0, v), 1, 500);
        });
        edge("promise 6", "undoable", () -> undoable(Edges::busy, film -> film.stock(1, 2, 500)));
    }

    /** A kitchen with 998 of one ingredient and nothing of the others. */
    private static UnitKitchens nearlyFull(int what) {
        UnitKitchens x = places();
        x.addKitchen(0);
        x.stock(0, what, 500);
        x.stock(0, what, 498);
        return x;
    }

    private static void stockIsFull() {
        edge("promise 6", "999 of each ingredient are taken, 1000 are refused", () -> {
            for (int i = 0; i < 3; i++) {
                int what = i;
                UnitKitchens x = nearlyFull(what);
                is(x.stock(0, what, 1), 999);
                is(x.kitchen(0, 1 + what), 999);
                is(x.stock(0, (what + 1) % 3, 500), 500);
                refused(STATE, () -> nearlyFull(what), film -> film.stock(0, what, 2));
                refused(STATE, () -> nearlyFull(what), film -> film.stock(0, what, 500));
            }
        });
        edge("promise 6", "of the exceptions the first that applies is thrown", () -> {
            refused(INDEX, Edges::busy, film -> film.stock(2, 3, 0));
            refused(INDEX, Edges::busy, film -> film.stock(-1, 0, 501));
            refused(ARGUMENT, () -> nearlyFull(0), film -> film.stock(0, 0, 501));
            refused(ARGUMENT, () -> nearlyFull(0), film -> film.stock(0, 0, MAX));
        });
    }

    // ---- promise 7

    private static void cook() {
        edge("promise 7", "the first and the last kitchen are taken, none beside them", () -> {
            UnitKitchens x = full();
            for (int k = 0; k < 3; k++) {
                x.stock(k, 1, 20);
            }
            is(x.cook(0, 2, 10), 2);
            is(x.cook(2, 2, 9), 2);
            is(x.kitchen(0, 5), 10);
            is(x.kitchen(2, 5), 9);
            refusedOutside(INDEX, Edges::kit, (film, v) -> film.cook(v, 0, 1), 0, 0);
            refusedOutside(INDEX, Edges::full, (film, v) -> film.cook(v, 0, 1), 0, 2);
            refusedFor(INDEX, Edges::places, (film, v) -> film.cook(v, 0, 1), 0, -1, 1);
        });
        edge("promise 7", "dish is 0 to 2", () -> {
            UnitKitchens x = kit();
            x.cook(0, 0, 1);
            is(x.kitchen(0, 4), 0);
            x.pass(1);
            x.cook(0, 2, 1);
            is(x.kitchen(0, 4), 2);
            refusedOutside(ARGUMENT, Edges::kit, (film, v) -> film.cook(0, v, 1), 0, 2);
        });
        edge("promise 7", "many is 1 to 300", () -> {
            UnitKitchens x = kit();
            is(x.cook(0, 0, 1), 1);
            is(x.kitchen(0, 5), 1);
            UnitKitchens y = kit();
            is(y.cook(0, 0, 300), 15);
            are(kitchen(y, 0), 0, 200, 200, 500, 0, 300, 0, 0, 0, NONE, 0, 0);
            refusedOutside(ARGUMENT, Edges::kit, (film, v) -> film.cook(0, 0, v), 1, 300);
        });
        edge("promise 7", "one meal in the pot refuses, an empty pot does not", () -> {
            refused(STATE, () -> potOf(1), film -> film.cook(0, 0, 1));
            refused(STATE, () -> potOf(21), film -> film.cook(0, 1, 1));
            UnitKitchens x = potOf(21);
            x.pass(1);
            is(x.kitchen(0, 5), 1);
            x.pass(1);
            is(x.cook(0, 0, 1), 1);
        });
        edge("promise 7", "of the exceptions the first that applies is thrown", () -> {
            refused(INDEX, () -> potOf(1), film -> film.cook(1, 3, 0));
            refused(INDEX, () -> potOf(1), film -> film.cook(-1, 0, 1));
            refused(ARGUMENT, () -> potOf(1), film -> film.cook(0, 3, 1));
            refused(ARGUMENT, () -> potOf(1), film -> film.cook(0, 0, 301));
        });
        edge("promise 7", "undoable", () -> undoable(() -> oneSavedLess(kit()), film -> film.cook(0, 2, 250)));
    }

    private static UnitKitchens potOf(int many) {
        UnitKitchens x = kit();
        x.cook(0, 0, many);
        return x;
    }

    /** Undoes the last change, so that there is room for one more saved state. */
    private static UnitKitchens oneSavedLess(UnitKitchens x) {
        x.set(0, x.setting(0));
        x.undo();
        return x;
    }

    private static UnitKitchens stocked(int grain, int greens, int meat) {
        UnitKitchens x = places();
        x.addKitchen(0);
        x.stock(0, 0, grain);
        x.stock(0, 1, greens);
        x.stock(0, 2, meat);
        return x;
    }

    private static void cookOutOfStock() {
        edge("promise 7", "a stock that is just enough is used up at once, one that is 1 short refuses", () -> {
            UnitKitchens x = stocked(300, 300, 1);
            x.cook(0, 0, 300);
            are(kitchen(x, 0), 0, 0, 0, 1, 0, 300, 0, 0, 0, NONE, 0, 0);
            refused(STATE, () -> stocked(299, 300, 9), film -> film.cook(0, 0, 300));
            refused(STATE, () -> stocked(300, 299, 9), film -> film.cook(0, 0, 300));
            UnitKitchens y = stocked(300, 1, 300);
            y.cook(0, 1, 300);
            are(kitchen(y, 0), 0, 0, 1, 0, 1, 300, 0, 0, 0, NONE, 0, 0);
            refused(STATE, () -> stocked(299, 9, 300), film -> film.cook(0, 1, 300));
            refused(STATE, () -> stocked(300, 9, 299), film -> film.cook(0, 1, 300));
            UnitKitchens z = stocked(1, 500, 1);
            z.cook(0, 2, 250);
            are(kitchen(z, 0), 0, 1, 0, 1, 2, 250, 0, 0, 0, NONE, 0, 0);
            refused(STATE, () -> stocked(9, 499, 9), film -> film.cook(0, 2, 250));
        });
        edge("promise 7", "nothing in stock refuses each dish", () -> {
            for (int i = 0; i < 3; i++) {
                int dish = i;
                refused(STATE, Edges::full, film -> film.cook(0, dish, 1));
            }
        });
        edge("promise 7", "a full stock of 999 gives 300", () -> {
            UnitKitchens x = nearlyFull(1);
            x.stock(0, 1, 1);
            is(x.cook(0, 2, 300), 60);
            is(x.kitchen(0, 2), 399);
        });
    }

    private static int minutesFor(int many, int pace) {
        UnitKitchens x = kit();
        x.set(4, pace);
        return x.cook(0, 0, many);
    }

    private static void cookMinutes() {
        edge("promise 7", "the minutes just below, at and just above a whole number", () -> {
            is(minutesFor(1, 5), 1);
            is(minutesFor(4, 5), 1);
            is(minutesFor(5, 5), 1);
            is(minutesFor(6, 5), 2);
            is(minutesFor(10, 5), 2);
            is(minutesFor(11, 5), 3);
        });
        edge("promise 7", "the least and the greatest setting 4", () -> {
            is(minutesFor(1, 1), 1);
            is(minutesFor(300, 1), 300);
            is(minutesFor(1, 20), 1);
            is(minutesFor(20, 20), 1);
            is(minutesFor(21, 20), 2);
            is(minutesFor(300, 20), 15);
            is(minutesFor(300, 19), 16);
        });
        edge("promise 7", "the last meal is cooked in just so many minutes", () -> {
            UnitKitchens x = kit();
            x.set(4, 7);
            is(x.cook(0, 0, 22), 4);
            x.pass(3);
            is(x.kitchen(0, 5), 1);
            x.pass(1);
            is(x.kitchen(0, 5), 0);
        });
        edge("promise 7", "it answers by setting 4 as it is now, not as it becomes", () -> {
            UnitKitchens x = kit();
            x.set(4, 1);
            is(x.cook(0, 0, 20), 20);
            x.set(4, 20);
            x.pass(1);
            is(x.kitchen(0, 5), 0);
        });
    }

    // ---- promise 8

    /** Lorries 0 and 1 at place 0 and 1, kitchens 0 and 1 at place 0 and 1; kitchen 0 has 5 + 5 of dish 0, 4 of dish 1. */
    private static UnitKitchens loading() {
        UnitKitchens x = kit();
        x.addKitchen(1);
        x.addLorry(1);
        cookAll(x, 0, 0, 5);
        cookAll(x, 0, 0, 5);
        cookAll(x, 0, 1, 4);
        return oneSavedLess(x);
    }

    private static void load() {
        edge("promise 8", "the first and the last lorry are taken, none beside them", () -> {
            UnitKitchens x = loading();
            is(x.load(0, 0, 0, 1), 1);
            refusedOutside(INDEX, UnitKitchensChangesEdgesTest::loading, (film, v) -> film.load(v, 0, 0, 1), 0, 1);
            refusedFor(INDEX, Edges::places, (film, v) -> film.load(v, 0, 0, 1), 0, -1, 1);
            UnitKitchens y = kit();
            for (int i = 1; i < 4; i++) {
                y.addLorry(0);
            }
            cookAll(y, 0, 0, 9);
            is(y.load(3, 0, 0, 9), 9);
            is(y.lorry(3, 3), 9);
        });
        edge("promise 8", "the first and the last kitchen are taken, none beside them", () -> {
            UnitKitchens x = kit();
            x.addKitchen(0);
            x.addKitchen(0);
            x.stock(2, 1, 4);
            cookAll(x, 2, 2, 2);
            is(x.load(0, 2, 2, 2), 2);
            refusedOutside(INDEX, UnitKitchensChangesEdgesTest::loading, (film, v) -> film.load(0, v, 0, 1), 0, 1);
            refusedOutside(INDEX, Edges::full, (film, v) -> film.load(0, v, 0, 1), 0, 2);
        });
        edge("promise 8", "dish is 0 to 2", () -> {
            UnitKitchens x = kit();
            cookAll(x, 0, 0, 1);
            cookAll(x, 0, 2, 1);
            is(x.load(0, 0, 0, 1), 1);
            is(x.load(0, 0, 2, 1), 2);
            are(lorry(x, 0), 0, NONE, 0, 1, 0, 1, 1, 0, 0);
            refusedOutside(ARGUMENT, UnitKitchensChangesEdgesTest::loading, (film, v) -> film.load(0, 0, v, 1), 0, 2);
        });
        edge("promise 8", "many is 1 to 500", () -> {
            UnitKitchens x = fiveHundred();
            is(x.load(0, 0, 0, 1), 1);
            x.undo();
            is(x.load(0, 0, 0, 500), 500);
            is(x.kitchen(0, 6), 1);
            refusedOutside(ARGUMENT, UnitKitchensChangesEdgesTest::loading, (film, v) -> film.load(0, 0, 0, v), 1, 500);
            refused(ARGUMENT, () -> fiveHundred(), film -> film.load(0, 0, 0, 501));
        });
        edge("promise 8", "of the exceptions the first that applies is thrown", () -> {
            refused(INDEX, UnitKitchensChangesEdgesTest::loading, film -> film.load(2, 0, 3, 0));
            refused(INDEX, UnitKitchensChangesEdgesTest::loading, film -> film.load(0, 2, 3, 0));
            refused(INDEX, UnitKitchensChangesEdgesTest::loading, film -> film.load(1, -1, 0, 1));
            refused(ARGUMENT, UnitKitchensChangesEdgesTest::loading, film -> film.load(1, 0, 3, 1));
            refused(ARGUMENT, UnitKitchensChangesEdgesTest::loading, film -> film.load(1, 0, 0, 501));
        });
        edge("promise 8", "undoable", () -> undoable(UnitKitchensChangesEdgesTest::loading, film -> film.load(0, 0, 0, 7)));
    }

    /** A kitchen with 501 meals of dish 0 of many minutes, and a lorry that can carry 500. */
    private static UnitKitchens fiveHundred() {
        UnitKitchens x = kit();
        x.set(3, 60);
        x.set(5, 500);
        x.stock(0, 0, 499);
        x.stock(0, 1, 499);
        cookAll(x, 0, 0, 300);
        cookAll(x, 0, 0, 201);
        return x;
    }

    private static void loadAsMuchAsThereIs() {
        edge("promise 8", "all meals of a dish, and one more than there are", () -> {
            UnitKitchens x = loading();
            is(x.load(0, 0, 0, 10), 10);
            is(x.kitchen(0, 6), 0);
            is(x.kitchen(0, 7), 4);
            is(x.load(0, 0, 1, 4), 14);
            is(x.kitchen(0, 9), NONE);
            refused(STATE, UnitKitchensChangesEdgesTest::loading, film -> film.load(0, 0, 0, 11));
            refused(STATE, UnitKitchensChangesEdgesTest::loading, film -> film.load(0, 0, 1, 5));
            refused(STATE, UnitKitchensChangesEdgesTest::loading, film -> film.load(0, 0, 2, 1));
        });
        edge("promise 8", "a lorry that is just full, and one meal more", () -> {
            UnitKitchens x = roomFor(10);
            is(x.load(0, 0, 0, 9), 9);
            is(x.load(0, 0, 1, 1), 10);
            refused(STATE, () -> fullLorry(), film -> film.load(0, 0, 1, 1));
            UnitKitchens y = roomForThreeMore();
            is(y.load(0, 0, 1, 3), 13);
            refused(STATE, () -> roomForThreeMore(), film -> film.load(0, 0, 1, 4));
        });
        edge("promise 8", "the least room of a lorry at once, and one meal more", () -> {
            UnitKitchens x = fiveHundred();
            x.set(5, 10);
            is(x.load(0, 0, 0, 10), 10);
            refused(STATE, () -> tenOfMany(), film -> film.load(0, 0, 0, 11));
        });
        edge("promise 8", "a lorry that has more than it can carry since, takes none", () -> {
            refused(STATE, () -> tooFullLorry(), film -> film.load(0, 0, 1, 1));
        });
        edge("promise 8", "a lorry at another place, or one that drives to that of the kitchen", () -> {
            refused(STATE, UnitKitchensChangesEdgesTest::loading, film -> film.load(1, 0, 0, 1));
            refused(STATE, UnitKitchensChangesEdgesTest::loading, film -> film.load(0, 1, 0, 1));
            refused(STATE, () -> comingLorry(), film -> film.load(1, 0, 0, 1));
            UnitKitchens x = comingLorry();
            x.pass(1);
            is(x.load(1, 0, 0, 1), 1);
        });
        edge("promise 8", "those that were cooked first are loaded, up to just the last of a minute", () -> {
            UnitKitchens x = loading();
            x.load(0, 0, 0, 5);
            is(x.lorry(0, 6), 1);
            is(x.kitchen(0, 9), 2);
            x.set(3, 5);
            x.pass(4);
            is(x.lorry(0, 3), 0);
            is(x.kitchen(0, 6), 5);
            UnitKitchens y = loading();
            y.load(0, 0, 0, 6);
            y.set(3, 5);
            y.pass(4);
            is(y.lorry(0, 3), 1);
            is(y.kitchen(0, 6), 4);
            is(y.lorry(0, 6), 2);
        });
    }

    private static UnitKitchens roomFor(int meals) {
        UnitKitchens x = loading();
        x.set(5, meals);
        return x;
    }

    private static UnitKitchens roomForThreeMore() {
        UnitKitchens x = roomFor(13);
        x.load(0, 0, 0, 10);
        return x;
    }

    private static UnitKitchens fullLorry() {
        UnitKitchens x = roomFor(10);
        x.load(0, 0, 0, 10);
        return x;
    }

    private static UnitKitchens tooFullLorry() {
        UnitKitchens x = roomFor(12);
        x.load(0, 0, 0, 10);
        x.load(0, 0, 1, 1);
        x.set(5, 10);
        return x;
    }

    private static UnitKitchens tenOfMany() {
        UnitKitchens x = fiveHundred();
        x.set(5, 10);
        return x;
    }

    /** Lorry 1 has one minute left of its drive to the place of kitchen 0. */
    private static UnitKitchens comingLorry() {
        UnitKitchens x = loading();
        x.drive(1, 0);
        x.pass(6);
        return x;
    }

    // ---- promise 9

    private static void unload() {
        edge("promise 9", "the first and the last lorry and kitchen are taken, none beside them", () -> {
            UnitKitchens x = full();
            is(x.unload(0, 0), 0);
            is(x.unload(3, 2), 0);
            refusedOutside(INDEX, Edges::full, (film, v) -> film.unload(v, 0), 0, 3);
            refusedOutside(INDEX, Edges::full, (film, v) -> film.unload(0, v), 0, 2);
            refusedFor(INDEX, Edges::places, (film, v) -> film.unload(v, v), 0, -1, 1);
        });
        edge("promise 9", "an empty lorry: 0, and it is saved", () -> {
            UnitKitchens x = loading();
            is(x.unload(0, 0), 0);
            is(x.count(16), 6);
            undoable(UnitKitchensChangesEdgesTest::loading, film -> film.unload(0, 0));
        });
        edge("promise 9", "a full lorry of 500 meals, into a kitchen that has some", () -> {
            UnitKitchens x = fiveHundred();
            x.load(0, 0, 0, 500);
            is(x.unload(0, 0), 500);
            is(x.kitchen(0, 6), 501);
            is(x.kitchen(0, 9), 1);
            are(lorry(x, 0), 0, NONE, 0, 0, 0, 0, NONE, 0, 0);
        });
        edge("promise 9", "meals of all dishes keep their minutes", () -> {
            UnitKitchens x = kit();
            x.addKitchen(0);
            for (int dish = 0; dish < 3; dish++) {
                cookAll(x, 0, dish, 3 + dish);
                x.load(0, 0, dish, 3 + dish);
            }
            is(x.unload(0, 1), 12);
            are(kitchen(x, 1), 0, 0, 0, 0, NONE, 0, 3, 4, 5, 1, 0, 0);
            x.set(3, 5);
            x.pass(4);
            are(kitchen(x, 1), 0, 0, 0, 0, NONE, 0, 0, 4, 5, 2, 0, 3);
            x.pass(1);
            are(kitchen(x, 1), 0, 0, 0, 0, NONE, 0, 0, 0, 5, 3, 0, 7);
        });
        edge("promise 9", "a lorry at another place, or one that drives to that of the kitchen", () -> {
            refused(STATE, UnitKitchensChangesEdgesTest::loading, film -> film.unload(0, 1));
            refused(STATE, UnitKitchensChangesEdgesTest::loading, film -> film.unload(1, 0));
            refused(STATE, () -> comingLorry(), film -> film.unload(1, 0));
            UnitKitchens x = comingLorry();
            x.pass(1);
            is(x.unload(1, 0), 0);
        });
        edge("promise 9", "of both exceptions that of the index is thrown", () -> {
            refused(INDEX, () -> comingLorry(), film -> film.unload(1, 2));
            refused(INDEX, UnitKitchensChangesEdgesTest::loading, film -> film.unload(2, 1));
        });
        edge("promise 9", "undoable", () -> undoable(Edges::busy, film -> film.unload(0, 0)));
    }

    // ---- promise 10

    private static void drive() {
        edge("promise 10", "the first and the last lorry are taken, none beside them", () -> {
            UnitKitchens x = full();
            is(x.drive(0, 1), 7);
            is(x.drive(3, 1), 7);
            refusedOutside(INDEX, Edges::full, (film, v) -> film.drive(v, 1), 0, 3);
            refusedFor(INDEX, Edges::places, (film, v) -> film.drive(v, 1), 0, -1, 1);
        });
        edge("promise 10", "the first and the last place are taken, none beside them", () -> {
            UnitKitchens x = full();
            is(x.drive(0, 7), 14);
            UnitKitchens y = places();
            y.addLorry(3);
            is(y.drive(0, 0), 198);
            refusedOutside(INDEX, Edges::full, (film, v) -> film.drive(0, v), 0, 7);
            refusedOutside(INDEX, Edges::busy, (film, v) -> film.drive(0, v), 0, 3);
        });
        edge("promise 10", "the place at which it stands is refused, another one at the same x and y is taken", () -> {
            refused(STATE, Edges::kit, film -> film.drive(0, 0));
            UnitKitchens x = kit();
            is(x.drive(0, 2), 1);
        });
        edge("promise 10", "a lorry that drives is refused, until it stands", () -> {
            for (int i = 0; i < 4; i++) {
                int place = i;
                refused(STATE, () -> onItsWay(), film -> film.drive(0, place));
            }
            UnitKitchens x = onItsWay();
            x.pass(1);
            is(x.drive(0, 0), 7);
        });
        edge("promise 10", "of both exceptions that of the index is thrown", () -> {
            refused(INDEX, () -> onItsWay(), film -> film.drive(0, 4));
            refused(INDEX, () -> onItsWay(), film -> film.drive(0, -1));
            refused(INDEX, () -> onItsWay(), film -> film.drive(1, 4));
        });
        edge("promise 10", "undoable", () -> {
            undoable(Edges::busy, film -> film.drive(0, 3));
            undoable(Edges::busy, film -> film.drive(0, 2));
        });
    }

    /** A lorry with one minute left of its drive from place 0 to place 1. */
    private static UnitKitchens onItsWay() {
        UnitKitchens x = kit();
        x.drive(0, 1);
        x.pass(6);
        return x;
    }

    // ---- promise 11

    private static void addUnit() {
        edge("promise 11", "the first and the last place are taken, none beside them", () -> {
            UnitKitchens x = places();
            is(x.addUnit(0, 1, 0, 1, 30), 0);
            is(x.addUnit(3, 1, 0, 1, 30), 1);
            is(x.unit(0, 1), 0);
            is(x.unit(1, 1), 3);
            refusedOutside(INDEX, Edges::busy, (film, v) -> film.addUnit(v, 1, 0, 1, 30), 0, 3);
            refusedFor(INDEX, UnitKitchens::new, (film, v) -> film.addUnit(v, 1, 0, 1, 30), 0, -1, 1);
        });
        edge("promise 11", "people are 1 to 300", () -> {
            UnitKitchens x = places();
            is(x.addUnit(0, 1, 0, 5, 30), 0);
            is(x.addUnit(0, 300, 0, 5, 30), 1);
            is(x.unit(0, 2), 1);
            is(x.unit(1, 2), 300);
            refusedOutside(ARGUMENT, Edges::busy, (film, v) -> film.addUnit(0, v, 0, 1, 30), 1, 300);
        });
        edge("promise 11", "greens are 0 to people", () -> {
            int[] sizes = {1, 7, 300};
            for (int people : sizes) {
                UnitKitchens x = places();
                x.addUnit(0, people, 0, 5, 30);
                x.addUnit(0, people, people, 5, 30);
                is(x.unit(0, 3), 0);
                is(x.unit(1, 3), people);
                refusedOutside(ARGUMENT, Edges::busy, (film, v) -> film.addUnit(0, people, v, 1, 30), 0, people);
            }
        });
        edge("promise 11", "call is 1 to 600", () -> {
            UnitKitchens x = atMinute(9);
            x.addUnit(0, 1, 0, 1, 30);
            x.addUnit(0, 1, 0, 600, 30);
            is(x.unit(0, 4), 10);
            is(x.unit(1, 4), 609);
            refusedOutside(ARGUMENT, Edges::busy, (film, v) -> film.addUnit(0, 1, 0, v, 30), 1, 600);
        });
        edge("promise 11", "interval is 30 to 600", () -> {
            UnitKitchens x = places();
            x.addUnit(0, 1, 0, 1, 30);
            x.addUnit(0, 1, 0, 1, 600);
            is(x.unit(0, 5), 30);
            is(x.unit(1, 5), 600);
            refusedOutside(ARGUMENT, Edges::busy, (film, v) -> film.addUnit(0, 1, 0, 1, v), 30, 600);
        });
    }

    private static void addUnitFully() {
        edge("promise 11", "the 12th unit is added, a 13th is refused", () -> {
            UnitKitchens x = full();
            x.undo();
            is(x.count(3), 11);
            is(x.addUnit(0, 1, 0, 1, 30), 11);
            refused(STATE, Edges::full, film -> film.addUnit(0, 1, 0, 1, 30));
        });
        edge("promise 11", "in the last minute a call beyond it is taken", () -> {
            UnitKitchens x = atMinute(20000);
            is(x.addUnit(0, 1, 0, 600, 600), 0);
            is(x.unit(0, 4), 20600);
        });
        edge("promise 11", "of the exceptions the first that applies is thrown", () -> {
            refused(INDEX, Edges::full, film -> film.addUnit(8, 0, 0, 1, 30));
            refused(INDEX, Edges::busy, film -> film.addUnit(-1, 1, 2, 0, 29));
            refused(ARGUMENT, Edges::full, film -> film.addUnit(0, 301, 0, 1, 30));
            refused(ARGUMENT, Edges::full, film -> film.addUnit(0, 1, 2, 1, 30));
            refused(ARGUMENT, Edges::full, film -> film.addUnit(0, 1, 0, 0, 30));
            refused(ARGUMENT, Edges::full, film -> film.addUnit(0, 1, 0, 1, 601));
            refused(ARGUMENT, Edges::busy, film -> film.addUnit(0, MIN, MIN, MIN, MIN));
            refused(ARGUMENT, Edges::busy, film -> film.addUnit(0, MAX, MAX, MAX, MAX));
        });
        edge("promise 11", "undoable, the first unit too", () -> {
            undoable(Edges::busy, film -> film.addUnit(3, 300, 300, 600, 600));
            undoable(Edges::places, film -> film.addUnit(3, 1, 0, 1, 30));
        });
    }

    // ---- promise 12

    /** Unit 0 with 20 people, 8 of them greens, to whom meals are owed since minute 5. */
    private static UnitKitchens splitting() {
        UnitKitchens x = places();
        x.addUnit(1, 20, 8, 5, 45);
        x.pass(5);
        return oneSavedLess(x);
    }

    private static UnitKitchens big() {
        UnitKitchens x = places();
        x.addUnit(0, 300, 150, 5, 45);
        return x;
    }

    private static void split() {
        edge("promise 12", "the first and the last unit are taken, none beside them", () -> {
            UnitKitchens x = splitting();
            is(x.split(0, 10, 4), 1);
            is(x.split(1, 5, 2), 2);
            refusedOutside(INDEX, () -> splitting(), (film, v) -> film.split(v, 1, 0), 0, 0);
            refusedOutside(INDEX, Edges::full, (film, v) -> film.split(v, 1, 0), 0, 11);
            refusedFor(INDEX, Edges::places, (film, v) -> film.split(v, 1, 0), 0, -1, 1);
        });
        edge("promise 12", "people are 1 to 299", () -> {
            UnitKitchens x = big();
            is(x.split(0, 1, 0), 1);
            is(x.unit(0, 2), 299);
            is(x.unit(1, 2), 1);
            UnitKitchens y = big();
            is(y.split(0, 299, 150), 1);
            is(y.unit(0, 2), 1);
            is(y.unit(1, 2), 299);
            refusedOutside(ARGUMENT, () -> big(), (film, v) -> film.split(0, v, 0), 1, 299);
        });
        edge("promise 12", "greens are 0 to people", () -> {
            UnitKitchens x = splitting();
            x.split(0, 8, 8);
            are(unit(x, 0), 0, 1, 12, 0, 50, 45, 8, 12, 5, 0, 0, 0);
            are(unit(x, 1), 0, 1, 8, 8, 50, 45, 0, 0, NONE, 0, 0, 0);
            UnitKitchens y = splitting();
            y.split(0, 12, 0);
            are(unit(y, 0), 0, 1, 8, 8, 50, 45, 8, 12, 5, 0, 0, 0);
            are(unit(y, 1), 0, 1, 12, 0, 50, 45, 0, 0, NONE, 0, 0, 0);
            refusedOutside(ARGUMENT, () -> splitting(), (film, v) -> film.split(0, 5, v), 0, 5);
            refusedOutside(ARGUMENT, () -> splitting(), (film, v) -> film.split(0, 1, v), 0, 1);
        });
        edge("promise 12", "of the exceptions the first that applies is thrown", () -> {
            refused(INDEX, Edges::full, film -> film.split(12, 0, 1));
            refused(ARGUMENT, Edges::full, film -> film.split(0, 300, 0));
            refused(ARGUMENT, Edges::full, film -> film.split(0, 1, 2));
            refused(ARGUMENT, Edges::busy, film -> film.split(2, 0, 0));
        });
        edge("promise 12", "undoable", () -> undoable(() -> splitting(), film -> film.split(0, 11, 3)));
    }

    private static void splitPeople() {
        edge("promise 12", "one of its people must stay", () -> {
            UnitKitchens x = splitting();
            is(x.split(0, 19, 8), 1);
            are(unit(x, 0), 0, 1, 1, 0, 50, 45, 8, 12, 5, 0, 0, 0);
            refused(STATE, () -> splitting(), film -> film.split(0, 20, 8));
            refused(STATE, () -> splitting(), film -> film.split(0, 21, 8));
            refused(STATE, () -> ofOne(), film -> film.split(0, 1, 0));
        });
        edge("promise 12", "as many greens as it has, one more", () -> {
            UnitKitchens x = splitting();
            is(x.split(0, 9, 8), 1);
            refused(STATE, () -> splitting(), film -> film.split(0, 9, 9));
        });
        edge("promise 12", "as many others as it has, one more", () -> {
            UnitKitchens x = splitting();
            is(x.split(0, 15, 3), 1);
            refused(STATE, () -> splitting(), film -> film.split(0, 16, 3));
            refused(STATE, () -> splitting(), film -> film.split(0, 13, 0));
        });
        edge("promise 12", "the 12th unit is split off, a 13th is refused", () -> {
            UnitKitchens x = big();
            for (int i = 1; i < 12; i++) {
                is(x.split(0, 1, 0), i);
            }
            refused(STATE, Edges::full, film -> film.split(0, 1, 0));
        });
        edge("promise 12", "one that has wrapped or joined is refused", () -> {
            refused(STATE, Edges::busy, film -> film.split(2, 1, 0));
            refused(STATE, Edges::busy, film -> film.split(3, 1, 0));
        });
        edge("promise 12", "what is owed stays with the first one, all of it", () -> {
            UnitKitchens x = splitting();
            x.split(0, 19, 8);
            is(x.count(13), 20);
            is(x.unit(0, 6) + x.unit(0, 7), 20);
            x.pass(45);
            are(unit(x, 0), 0, 1, 1, 0, 95, 45, 8, 13, 5, 0, 20 * 29 + 21, 0);
            are(unit(x, 1), 0, 1, 19, 8, 95, 45, 8, 11, 50, 0, 0, 0);
        });
    }

    private static UnitKitchens ofOne() {
        UnitKitchens x = places();
        x.addUnit(0, 1, 0, 1, 30);
        return x;
    }

    // ---- promise 13

    /** Units of so many people at place 0. */
    private static UnitKitchens two(int people, int others) {
        UnitKitchens x = places();
        x.addUnit(0, people, people / 2, 5, 45);
        x.addUnit(0, others, others / 3, 7, 60);
        return oneSavedLess(x);
    }

    private static void join() {
        edge("promise 13", "the first and the last unit are taken, none beside them", () -> {
            UnitKitchens x = full();
            is(x.join(0, 11), 20);
            is(x.join(11, 1), 30);
            refusedOutside(INDEX, Edges::full, (film, v) -> film.join(v, 0), 0, 11);
            refusedOutside(INDEX, Edges::full, (film, v) -> film.join(0, v), 0, 11);
            refusedOutside(INDEX, Edges::full, (film, v) -> film.join(v, v), 0, 11);
            refusedFor(INDEX, Edges::places, (film, v) -> film.join(v, v), 0, -1, 1);
        });
        edge("promise 13", "both are the same, one that works or not", () -> {
            for (int i = 0; i < 5; i++) {
                int unit = i;
                refused(ARGUMENT, Edges::busy, film -> film.join(unit, unit));
            }
        });
        edge("promise 13", "300 people together are taken, 301 are refused", () -> {
            UnitKitchens x = two(299, 1);
            is(x.join(0, 1), 300);
            UnitKitchens y = two(150, 150);
            is(y.join(0, 1), 300);
            are(unit(y, 1), 0, 0, 300, 125, 7, 60, 0, 0, NONE, 0, 0, 0);
            refused(STATE, () -> two(300, 1), film -> film.join(0, 1));
            refused(STATE, () -> two(1, 300), film -> film.join(0, 1));
            refused(STATE, () -> two(150, 151), film -> film.join(0, 1));
            refused(STATE, () -> two(300, 300), film -> film.join(0, 1));
        });
        edge("promise 13", "another place is refused, at the same x and y too", () -> {
            refused(STATE, Edges::busy, film -> film.join(0, 1));
            refused(STATE, () -> apart(), film -> film.join(0, 1));
        });
        edge("promise 13", "one that has wrapped or joined is refused, on either side", () -> {
            refused(STATE, Edges::busy, film -> film.join(2, 1));
            refused(STATE, Edges::busy, film -> film.join(1, 2));
            refused(STATE, Edges::busy, film -> film.join(3, 1));
            refused(STATE, Edges::busy, film -> film.join(1, 3));
            refused(STATE, Edges::busy, film -> film.join(2, 3));
        });
        edge("promise 13", "of the exceptions the first that applies is thrown", () -> {
            refused(INDEX, Edges::busy, film -> film.join(6, 6));
            refused(INDEX, Edges::busy, film -> film.join(2, 6));
            refused(ARGUMENT, Edges::busy, film -> film.join(2, 2));
        });
        edge("promise 13", "undoable", () -> undoable(Edges::busy, film -> film.join(4, 1)));
    }

    private static UnitKitchens apart() {
        UnitKitchens x = two(5, 5);
        x.move(1, 2);
        return x;
    }

    /** Units whose first calls are in so many minutes, in minute 10. */
    private static UnitKitchens owing(int call, int other) {
        UnitKitchens x = places();
        x.addUnit(0, 5, 2, call, 45);
        x.addUnit(0, 9, 4, other, 60);
        x.pass(10);
        return x;
    }

    private static void joinOwed() {
        edge("promise 13", "since the earlier one of both minutes: that of the first, of the other, the same", () -> {
            UnitKitchens x = owing(3, 4);
            is(x.join(0, 1), 14);
            are(unit(x, 0), 2, NONE, NONE, NONE, NONE, NONE, NONE, NONE, NONE, 0, 0, 0);
            are(unit(x, 1), 0, 0, 14, 6, 64, 60, 6, 8, 3, 0, 0, 0);
            UnitKitchens y = owing(4, 3);
            y.join(0, 1);
            is(y.unit(1, 8), 3);
            is(y.unit(1, 4), 63);
            UnitKitchens z = owing(4, 4);
            z.join(0, 1);
            is(z.unit(1, 8), 4);
        });
        edge("promise 13", "since the one minute that there is, or none", () -> {
            UnitKitchens x = owing(3, 400);
            x.join(0, 1);
            are(unit(x, 1), 0, 0, 14, 6, 400, 60, 2, 3, 3, 0, 0, 0);
            UnitKitchens y = owing(400, 3);
            y.join(0, 1);
            are(unit(y, 1), 0, 0, 14, 6, 63, 60, 4, 5, 3, 0, 0, 0);
            UnitKitchens z = owing(400, 500);
            z.join(0, 1);
            are(unit(z, 1), 0, 0, 14, 6, 500, 60, 0, 0, NONE, 0, 0, 0);
        });
        edge("promise 13", "what was served, the penalty and the number stay; nothing is cancelled", () -> {
            UnitKitchens x = kit();
            x.set(1, 0);
            x.addUnit(0, 5, 2, 1, 30);
            x.addUnit(0, 9, 4, 500, 60);
            x.cook(0, 0, 3);
            x.pass(4);
            x.join(0, 1);
            are(unit(x, 0), 2, NONE, NONE, NONE, NONE, NONE, NONE, NONE, NONE, 3, 6, 0);
            are(unit(x, 1), 0, 0, 14, 6, 500, 60, 0, 2, 1, 0, 0, 0);
            is(x.count(14), 0);
            x.pass(1);
            is(x.unit(0, 10), 6);
            is(x.unit(1, 10), 2);
        });
    }

    // ---- promises 14 and 15

    private static void move() {
        edge("promise 14", "the first and the last unit are taken, none beside them", () -> {
            UnitKitchens x = full();
            is(x.move(0, 1), 0);
            is(x.move(11, 1), 0);
            refusedOutside(INDEX, Edges::full, (film, v) -> film.move(v, 1), 0, 11);
            refusedFor(INDEX, Edges::places, (film, v) -> film.move(v, 1), 0, -1, 1);
        });
        edge("promise 14", "the first and the last place are taken, none beside them", () -> {
            UnitKitchens x = full();
            is(x.move(5, 7), 0);
            is(x.unit(5, 1), 7);
            is(x.move(5, 0), 7);
            is(x.unit(5, 1), 0);
            refusedOutside(INDEX, Edges::full, (film, v) -> film.move(0, v), 0, 7);
            refusedOutside(INDEX, Edges::busy, (film, v) -> film.move(0, v), 0, 3);
        });
        edge("promise 14", "the place at which it is already is taken, and saved", () -> {
            UnitKitchens x = busy();
            is(x.move(0, 1), 1);
            is(x.count(16), 6);
            undoable(Edges::busy, film -> film.move(0, 1));
        });
        edge("promise 14", "one that has wrapped or joined is refused", () -> {
            refused(STATE, Edges::busy, film -> film.move(2, 1));
            refused(STATE, Edges::busy, film -> film.move(3, 1));
        });
        edge("promise 14", "of both exceptions that of the index is thrown", () -> {
            refused(INDEX, Edges::busy, film -> film.move(2, 4));
            refused(INDEX, Edges::busy, film -> film.move(3, -1));
        });
        edge("promise 14", "at once, with what is owed", () -> {
            UnitKitchens x = busy();
            int owed = x.place(1, 6);
            x.move(0, 3);
            is(x.place(1, 6), 0);
            is(x.place(3, 6), owed);
        });
        edge("promise 14", "undoable", () -> undoable(Edges::busy, film -> film.move(0, 3)));
    }

    private static void wrap() {
        edge("promise 15", "the first and the last unit are taken, none beside them", () -> {
            UnitKitchens x = full();
            x.pass(1);
            is(x.wrap(0), 10);
            is(x.wrap(11), 10);
            refusedOutside(INDEX, Edges::full, (film, v) -> film.wrap(v), 0, 11);
            refusedFor(INDEX, Edges::places, (film, v) -> film.wrap(v), 0, -1, 1);
        });
        edge("promise 15", "nothing is owed: 0, and it is saved", () -> {
            UnitKitchens x = busy();
            is(x.wrap(4), 0);
            are(unit(x, 4), 1, NONE, NONE, NONE, NONE, NONE, NONE, NONE, NONE, 0, 0, 0);
            is(x.count(16), 6);
        });
        edge("promise 15", "meals of several calls, to greens and to others, are cancelled", () -> {
            UnitKitchens x = places();
            x.addUnit(0, 5, 2, 1, 30);
            x.pass(61);
            is(x.wrap(0), 15);
            is(x.unit(0, 11), 15);
            is(x.count(14), 15);
            is(x.count(13), 0);
            is(x.count(12), 15);
        });
        edge("promise 15", "one that has wrapped or joined is refused", () -> {
            refused(STATE, Edges::busy, film -> film.wrap(2));
            refused(STATE, Edges::busy, film -> film.wrap(3));
        });
        edge("promise 15", "undoable", () -> {
            undoable(Edges::busy, film -> film.wrap(0));
            undoable(Edges::busy, film -> film.wrap(4));
        });
    }

    // ---- promise 16

    private static void pass() {
        edge("promise 16", "minutes are 1 to 200", () -> {
            UnitKitchens x = busy();
            x.pass(1);
            is(x.count(6), 8);
            x.pass(200);
            is(x.count(6), 208);
            refusedOutside(ARGUMENT, Edges::busy, (film, v) -> film.pass(v), 1, 200);
        });
        edge("promise 16", "up to the minute 20000, not above it", () -> {
            UnitKitchens x = atMinute(19800);
            is(x.pass(200), 0);
            is(x.count(6), 20000);
            UnitKitchens y = atMinute(19999);
            y.pass(1);
            is(y.count(6), 20000);
            refused(STATE, () -> atMinute(19801), film -> film.pass(200));
            refused(STATE, () -> atMinute(19999), film -> film.pass(2));
            refused(STATE, () -> atMinute(20000), film -> film.pass(1));
            refused(STATE, () -> atMinute(20000), film -> film.pass(200));
        });
        edge("promise 16", "of both exceptions that of the argument is thrown", () -> {
            refusedFor(ARGUMENT, () -> atMinute(20000), (film, v) -> film.pass(v), 0, -1, 201, MAX, MIN);
        });
        edge("promise 16", "undoable as one call, the least and the greatest", () -> {
            undoable(Edges::busy, film -> film.pass(1));
            undoable(Edges::busy, film -> film.pass(200));
        });
        edge("promise 16", "nothing to do: 0, and it is saved", () -> {
            UnitKitchens x = new UnitKitchens();
            is(x.pass(200), 0);
            is(x.count(16), 1);
        });
        edge("promise 16", "the meals that are served in all of the minutes", () -> {
            UnitKitchens x = kit();
            x.set(3, 60);
            x.addUnit(0, 5, 2, 1, 30);
            x.cook(0, 0, 40);
            is(x.pass(1), 5);
            is(x.pass(29), 0);
            is(x.pass(31), 10);
            UnitKitchens y = kit();
            y.set(3, 60);
            y.addUnit(0, 5, 2, 1, 30);
            y.cook(0, 0, 40);
            is(y.pass(61), 15);
        });
    }
}
