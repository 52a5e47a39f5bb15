/** The boundary cases that "The public face" and "Terms" of ../shared/DOC.md name; texts and undo are elsewhere. */
public final class UnitKitchensTermsEdgesTest extends Edges {
    public static void main(String[] args) {
        face();
        numbers();
        drives();
        dishes();
        unitNumbers();
        minuteAndDrives();
        minuteAndPots();
        minuteAndOldMeals();
        minuteAndCalls();
        howManyAreServed();
        whenAndWhereIsServed();
        orderOfTheThreeCases();
        orderOfHolders();
        orderOfMeals();
        penalties();
        greatestPenalty();
        owedSince();
        settings();
        exceptions();
        end();
    }

    // ---- the public face

    private static void face() {
        edge("The public face", "NONE is -1", () -> is(UnitKitchens.NONE, -1));
        edge("What it is", "the 512th call is still answered", () -> {
            UnitKitchens x = places();
            for (int call = 5; call < 512; call++) {
                x.set(0, 1 + call % 50);
            }
            is(x.setting(0), 1 + 511 % 50);
            UnitKitchens y = kit();
            for (int call = 11; call < 512; call++) {
                y.digest();
            }
            is(y.count(16), 6);
        });
    }

    // ---- places, kitchens, lorries

    private static void numbers() {
        edge("Terms, places", "none at first, at most 8, numbered from 0", () -> {
            UnitKitchens x = new UnitKitchens();
            is(x.count(0), 0);
            for (int i = 0; i < 8; i++) {
                is(x.addPlace(i, 99 - i), i);
            }
            is(x.count(0), 8);
            for (int i = 0; i < 8; i++) {
                is(x.place(i, 0), i);
                is(x.place(i, 1), 99 - i);
            }
            refused(STATE, Edges::full, film -> film.addPlace(1, 1));
        });
        edge("Terms, kitchens", "none at first, at most 3, numbered from 0", () -> {
            UnitKitchens x = places();
            is(x.count(1), 0);
            for (int i = 0; i < 3; i++) {
                is(x.addKitchen(3 - i), i);
            }
            is(x.count(1), 3);
            for (int i = 0; i < 3; i++) {
                is(x.kitchen(i, 0), 3 - i);
            }
            refused(STATE, Edges::full, film -> film.addKitchen(1));
        });
        edge("Terms, kitchens", "there can be several at one place", () -> is(full().place(0, 3), 3));
        edge("Terms, lorries", "none at first, at most 4, numbered from 0", () -> {
            UnitKitchens x = places();
            is(x.count(2), 0);
            for (int i = 0; i < 4; i++) {
                is(x.addLorry(3 - i), i);
            }
            is(x.count(2), 4);
            for (int i = 0; i < 4; i++) {
                is(x.lorry(i, 0), 3 - i);
            }
            refused(STATE, Edges::full, film -> film.addLorry(1));
        });
        edge("Terms, kitchens", "at first 0 of each ingredient, no pot, no meals", () -> {
            UnitKitchens x = places();
            x.addKitchen(2);
            are(kitchen(x, 0), 2, 0, 0, 0, NONE, 0, 0, 0, 0, NONE, 0, 0);
        });
        edge("Terms, lorries", "at first without meals", () -> {
            UnitKitchens x = places();
            x.addLorry(2);
            are(lorry(x, 0), 2, NONE, 0, 0, 0, 0, NONE, 0, 0);
        });
        edge("Terms, minute", "at first 0", () -> is(new UnitKitchens().count(6), 0));
    }

    private static int driven(int pace, int fromX, int fromY, int toX, int toY) {
        UnitKitchens x = new UnitKitchens();
        x.addPlace(fromX, fromY);
        x.addPlace(toX, toY);
        x.addLorry(0);
        x.set(0, pace);
        int minutes = x.drive(0, 1);
        is(x.lorry(0, 2), minutes);
        passAll(x, minutes - 1);
        is(x.lorry(0, 0), NONE);
        is(x.lorry(0, 2), 1);
        x.pass(1);
        is(x.lorry(0, 0), 1);
        is(x.lorry(0, 2), 0);
        return minutes;
    }

    private static void drives() {
        edge("Terms, a drive", "at least 1 minute: between places at the same x and y", () -> {
            is(driven(10, 5, 5, 5, 5), 1);
            is(driven(1, 0, 0, 0, 0), 1);
            is(driven(50, 99, 99, 99, 99), 1);
        });
        edge("Terms, a drive", "rounded up: just below, at and just above whole minutes", () -> {
            is(driven(1, 0, 0, 1, 0), 1);
            is(driven(1, 0, 0, 0, 9), 1);
            is(driven(1, 0, 0, 4, 6), 1);
            is(driven(1, 0, 0, 5, 6), 2);
            is(driven(1, 0, 0, 10, 10), 2);
            is(driven(1, 0, 0, 11, 10), 3);
            is(driven(9, 0, 0, 1, 0), 1);
            is(driven(11, 0, 0, 1, 0), 2);
            is(driven(15, 0, 0, 2, 0), 3);
            is(driven(15, 0, 0, 3, 0), 5);
        });
        edge("Terms, a drive", "the greatest distance at the least and at the greatest setting 0", () -> {
            is(driven(1, 0, 0, 99, 99), 20);
            is(driven(50, 0, 0, 99, 99), 990);
        });
        edge("Terms, a drive", "the difference counts, whichever of x and of y is greater", () -> {
            is(driven(10, 99, 99, 0, 0), 198);
            is(driven(10, 99, 0, 0, 99), 198);
            is(driven(10, 0, 99, 99, 0), 198);
            is(driven(10, 7, 7, 3, 9), 6);
        });
        edge("Terms, a drive", "setting 0 counts as it is when the drive begins", () -> {
            UnitKitchens x = kit();
            is(x.drive(0, 1), 7);
            x.set(0, 50);
            x.pass(6);
            is(x.lorry(0, 2), 1);
            x.pass(1);
            is(x.lorry(0, 0), 1);
        });
    }

    /** Whether a kitchen with this stock can cook this many meals of a dish; the stock is used up if it is just enough. */
    private static int cooks(int dish, int many, int grain, int greens, int meat) {
        UnitKitchens x = places();
        x.addKitchen(0);
        int[] stock = {grain, greens, meat};
        for (int what = 0; what < 3; what++) {
            if (stock[what] > 0) {
                x.stock(0, what, stock[what]);
            }
        }
        try {
            x.cook(0, dish, many);
        } catch (IllegalStateException e) {
            return NONE;
        }
        return x.kitchen(0, 1) * 1000000 + x.kitchen(0, 2) * 1000 + x.kitchen(0, 3);
    }

    private static void dishes() {
        edge("Terms, dish 0", "needs just 1 grain and 1 greens", () -> {
            is(cooks(0, 1, 1, 1, 0), 0);
            is(cooks(0, 1, 0, 1, 9), NONE);
            is(cooks(0, 1, 1, 0, 9), NONE);
            is(cooks(0, 9, 9, 9, 9), 9);
            is(cooks(0, 9, 8, 9, 9), NONE);
            is(cooks(0, 9, 9, 8, 9), NONE);
        });
        edge("Terms, dish 1", "needs just 1 grain and 1 meat", () -> {
            is(cooks(1, 1, 1, 0, 1), 0);
            is(cooks(1, 1, 0, 9, 1), NONE);
            is(cooks(1, 1, 1, 9, 0), NONE);
            is(cooks(1, 9, 9, 9, 9), 9000);
            is(cooks(1, 9, 8, 9, 9), NONE);
            is(cooks(1, 9, 9, 9, 8), NONE);
        });
        edge("Terms, dish 2", "needs just 2 greens", () -> {
            is(cooks(2, 1, 0, 2, 0), 0);
            is(cooks(2, 1, 9, 1, 9), NONE);
            is(cooks(2, 9, 9, 18, 9), 9000009);
            is(cooks(2, 9, 9, 17, 9), NONE);
        });
        edge("Terms, divisions", "rounded down: an odd number of greens", () -> {
            UnitKitchens x = places();
            x.addKitchen(0);
            for (int greens = 1; greens <= 5; greens++) {
                x.stock(0, 1, 1);
                is(x.canCook(0, 2), greens / 2);
            }
        });
    }

    // ---- units

    private static void unitNumbers() {
        edge("Terms, units", "none at first, at most 12, numbered from 0", () -> {
            UnitKitchens x = places();
            is(x.count(3), 0);
            for (int i = 0; i < 12; i++) {
                is(x.addUnit(0, i + 1, 0, 1, 30), i);
            }
            for (int i = 0; i < 12; i++) {
                is(x.unit(i, 2), i + 1);
            }
            refused(STATE, Edges::full, film -> film.addUnit(0, 1, 0, 1, 30));
        });
        edge("Terms, units", "one that has wrapped or joined keeps its number, and counts among the 12", () -> {
            UnitKitchens x = places();
            x.addUnit(0, 5, 0, 1, 30);
            x.addUnit(0, 6, 0, 1, 30);
            x.wrap(0);
            is(x.addUnit(0, 7, 0, 1, 30), 2);
            x.join(1, 2);
            is(x.addUnit(0, 8, 0, 1, 30), 3);
            is(x.unit(0, 0), 1);
            is(x.unit(1, 0), 2);
            is(x.unit(2, 2), 13);
            for (int i = 4; i < 12; i++) {
                is(x.addUnit(0, 8, 0, 1, 30), i);
                x.wrap(i);
            }
            is(x.count(3), 12);
            is(x.count(4), 2);
            is(refusedOnTheSpot(x), 1);
        });
        edge("Terms, units", "1 person and 300 people, no greens and greens alone", () -> {
            UnitKitchens x = places();
            x.addUnit(0, 1, 0, 1, 30);
            x.addUnit(0, 1, 1, 1, 30);
            x.addUnit(0, 300, 0, 1, 30);
            x.addUnit(0, 300, 300, 1, 30);
            x.pass(1);
            int[][] owed = {{0, 1}, {1, 0}, {0, 300}, {300, 0}};
            for (int u = 0; u < 4; u++) {
                is(x.unit(u, 6), owed[u][0]);
                is(x.unit(u, 7), owed[u][1]);
            }
        });
    }

    private static int refusedOnTheSpot(UnitKitchens x) {
        try {
            x.addUnit(0, 1, 0, 1, 30);
            return 0;
        } catch (IllegalStateException e) {
            return 1;
        }
    }

    // ---- a minute

    private static void minuteAndDrives() {
        edge("A minute 1", "the number becomes 1 more in each", () -> {
            UnitKitchens x = new UnitKitchens();
            x.pass(1);
            is(x.count(6), 1);
            x.pass(200);
            is(x.count(6), 201);
        });
        edge("A minute 2", "a lorry stands when no minute is left, and not with one that is left", () -> {
            UnitKitchens x = kit();
            is(x.drive(0, 1), 7);
            x.pass(6);
            are(lorry(x, 0), NONE, 1, 1, 0, 0, 0, NONE, 0, 0);
            is(x.place(1, 4), 0);
            x.pass(1);
            are(lorry(x, 0), 1, NONE, 0, 0, 0, 0, NONE, 0, 0);
            is(x.place(1, 4), 1);
            x.pass(1);
            are(lorry(x, 0), 1, NONE, 0, 0, 0, 0, NONE, 0, 0);
        });
        edge("A minute 2", "a drive of 1 minute ends with the next minute", () -> {
            UnitKitchens x = kit();
            is(x.drive(0, 2), 1);
            x.pass(1);
            is(x.lorry(0, 0), 2);
        });
    }

    private static void minuteAndPots() {
        edge("A minute 3", "up to setting 4 meals: one less than it, just as many, one more are in the pot", () -> {
            int[] paces = {1, 5, 20};
            for (int pace : paces) {
                for (int many = Math.max(1, pace - 1); many <= pace + 1; many++) {
                    UnitKitchens x = kit();
                    x.set(4, pace);
                    x.cook(0, 1, many);
                    x.pass(1);
                    int cooked = Math.min(many, pace);
                    are(kitchen(x, 0), 0, 500 - many, 500, 500 - many, many > pace ? 1 : NONE, many - cooked,
                            0, cooked, 0, 1, cooked, 0);
                }
            }
        });
        edge("A minute 3", "an empty pot cooks nothing", () -> {
            UnitKitchens x = kit();
            x.pass(200);
            are(kitchen(x, 0), 0, 500, 500, 500, NONE, 0, 0, 0, 0, NONE, 0, 0);
        });
        edge("A minute 3", "a full pot of 300 at the least setting 4 is cooked in 300 minutes", () -> {
            UnitKitchens x = kit();
            x.set(4, 1);
            is(x.cook(0, 0, 300), 300);
            passAll(x, 299);
            is(x.kitchen(0, 5), 1);
            is(x.kitchen(0, 4), 0);
            is(x.kitchen(0, 10), 299);
            x.pass(1);
            is(x.kitchen(0, 5), 0);
            is(x.kitchen(0, 4), NONE);
            is(x.kitchen(0, 10), 300);
        });
        edge("A minute 3", "setting 4 counts as it is in the minute", () -> {
            UnitKitchens x = kit();
            x.cook(0, 0, 30);
            x.set(4, 2);
            x.pass(1);
            is(x.kitchen(0, 6), 2);
            x.set(4, 20);
            x.pass(1);
            is(x.kitchen(0, 6), 22);
        });
        edge("A minute 3", "out of each pot", () -> {
            UnitKitchens x = kit();
            x.addKitchen(1);
            x.addKitchen(2);
            for (int k = 0; k < 3; k++) {
                x.stock(k, 0, 9);
                x.stock(k, 1, 9);
                x.cook(k, 0, k + 1);
            }
            x.pass(1);
            for (int k = 0; k < 3; k++) {
                is(x.kitchen(k, 6), k + 1);
            }
        });
    }

    private static void minuteAndOldMeals() {
        edge("A minute 4", "meals of just setting 3 minutes stay, of one more are thrown away", () -> {
            int[] keeps = {5, 40, 60};
            for (int keep : keeps) {
                UnitKitchens x = kit();
                x.addLorry(0);
                x.set(3, keep);
                cookAll(x, 0, 0, 9);
                x.load(0, 0, 0, 2);
                x.load(1, 0, 0, 3);
                x.drive(1, 3);
                is(x.pass(keep), 0);
                is(x.kitchen(0, 6), 4);
                is(x.lorry(0, 3), 2);
                is(x.lorry(1, 3), 3);
                is(x.count(9), 0);
                is(x.pass(1), 0);
                is(x.kitchen(0, 6), 0);
                is(x.kitchen(0, 11), 4);
                are(lorry(x, 0), 0, NONE, 0, 0, 0, 0, NONE, 0, 2);
                are(lorry(x, 1), NONE, 3, 198 - keep - 1, 0, 0, 0, NONE, 0, 3);
                is(x.count(9), 9);
            }
        });
        edge("A minute 4", "each dish goes off", () -> {
            for (int dish = 0; dish < 3; dish++) {
                UnitKitchens x = kit();
                cookAll(x, 0, dish, 3);
                x.pass(40);
                is(x.kitchen(0, 6 + dish), 3);
                x.pass(1);
                is(x.kitchen(0, 6 + dish), 0);
                is(x.kitchen(0, 11), 3);
            }
        });
        edge("A minute 4", "of two minutes those of the first go off a minute ahead", () -> {
            UnitKitchens x = kit();
            cookAll(x, 0, 0, 4);
            cookAll(x, 0, 0, 3);
            x.pass(40);
            is(x.kitchen(0, 6), 3);
            is(x.kitchen(0, 9), 2);
            is(x.kitchen(0, 11), 4);
            x.pass(1);
            is(x.kitchen(0, 6), 0);
            is(x.kitchen(0, 11), 7);
        });
        edge("A minute 4", "a lower setting 3 throws away in the next minute, not at once", () -> {
            UnitKitchens x = kit();
            cookAll(x, 0, 0, 4);
            x.pass(5);
            x.set(3, 5);
            is(x.kitchen(0, 6), 4);
            x.pass(1);
            is(x.kitchen(0, 6), 0);
        });
        edge("A minute 4", "a lower setting 3 throws away nothing that is not older", () -> {
            UnitKitchens x = kit();
            cookAll(x, 0, 0, 4);
            x.pass(4);
            x.set(3, 5);
            x.pass(1);
            is(x.kitchen(0, 6), 4);
        });
        edge("A minute 4", "from the greatest to the least setting 3 all that is older goes in one minute", () -> {
            UnitKitchens x = kit();
            x.set(3, 60);
            for (int i = 0; i < 61; i++) {
                cookAll(x, 0, 0, 1);
            }
            is(x.kitchen(0, 6), 61);
            x.set(3, 5);
            x.pass(1);
            is(x.kitchen(0, 6), 5);
            is(x.kitchen(0, 9), 57);
            is(x.kitchen(0, 11), 56);
        });
        edge("A minute 4", "a higher setting 3 keeps what would have gone off", () -> {
            UnitKitchens x = kit();
            cookAll(x, 0, 0, 4);
            x.pass(40);
            x.set(3, 41);
            x.pass(1);
            is(x.kitchen(0, 6), 4);
            x.pass(1);
            is(x.kitchen(0, 6), 0);
        });
    }

    private static void minuteAndCalls() {
        edge("A minute 5", "meals are owed in the minute of the next call, not a minute before it", () -> {
            int[] calls = {1, 2, 600};
            for (int call : calls) {
                UnitKitchens x = places();
                x.addUnit(0, 7, 3, call, 30);
                passAll(x, call - 1);
                is(x.unit(0, 6) + x.unit(0, 7), 0);
                is(x.unit(0, 4), call);
                x.pass(1);
                is(x.unit(0, 6), 3);
                is(x.unit(0, 7), 4);
                is(x.unit(0, 4), call + 30);
            }
        });
        edge("A minute 5", "the next call is later by the least and the greatest interval", () -> {
            int[] intervals = {30, 600};
            for (int interval : intervals) {
                UnitKitchens x = places();
                x.addUnit(0, 7, 3, 1, interval);
                x.pass(1);
                is(x.unit(0, 4), 1 + interval);
                passAll(x, interval - 1);
                is(x.count(12), 7);
                x.pass(1);
                is(x.count(12), 14);
                is(x.unit(0, 6), 6);
                is(x.unit(0, 7), 8);
                is(x.unit(0, 4), 1 + 2 * interval);
            }
        });
        edge("A minute 5", "none come to be owed to a unit that has wrapped or joined", () -> {
            UnitKitchens x = places();
            x.addUnit(0, 7, 3, 1, 30);
            x.addUnit(0, 6, 3, 1, 30);
            x.addUnit(0, 5, 3, 1, 30);
            x.wrap(0);
            x.join(1, 2);
            x.pass(1);
            is(x.count(12), 11);
            is(x.unit(2, 6) + x.unit(2, 7), 11);
        });
    }

    private static void howManyAreServed() {
        edge("A minute 6", "just as many meals as are owed: none is left, and nothing is owed", () -> {
            UnitKitchens x = kit();
            x.cook(0, 0, 5);
            x.addUnit(0, 5, 2, 1, 30);
            is(x.pass(1), 5);
            are(unit(x, 0), 0, 0, 5, 2, 31, 30, 0, 0, NONE, 5, 0, 0);
            is(x.count(10), 0);
        });
        edge("A minute 6", "one meal less than is owed: it stays owed", () -> {
            UnitKitchens x = kit();
            x.cook(0, 0, 4);
            x.addUnit(0, 5, 2, 1, 30);
            is(x.pass(1), 4);
            are(unit(x, 0), 0, 0, 5, 2, 31, 30, 0, 1, 1, 4, 0, 0);
            is(x.count(10), 0);
        });
        edge("A minute 6", "one meal more than is owed: it is left", () -> {
            UnitKitchens x = kit();
            x.cook(0, 0, 6);
            x.addUnit(0, 5, 2, 1, 30);
            is(x.pass(1), 5);
            is(x.count(10), 1);
            is(x.pass(28), 0);
        });
        edge("A minute 6", "no meal at all", () -> {
            UnitKitchens x = kit();
            x.addUnit(0, 5, 2, 1, 30);
            is(x.pass(1), 0);
            are(unit(x, 0), 0, 0, 5, 2, 31, 30, 2, 3, 1, 0, 0, 0);
        });
        edge("A minute 6", "nobody to whom a meal is owed takes one", () -> {
            UnitKitchens x = kit();
            x.addUnit(0, 5, 2, 600, 30);
            x.cook(0, 0, 5);
            is(x.pass(41), 0);
            is(x.count(10), 5);
        });
        edge("A minute 6", "meals of several calls are served at once", () -> {
            UnitKitchens x = kit();
            x.addUnit(0, 5, 2, 1, 30);
            x.pass(61);
            is(x.count(13), 15);
            x.cook(0, 0, 20);
            is(x.pass(1), 15);
        });
    }

    private static void whenAndWhereIsServed() {
        edge("A minute 6", "meals of the same minute are served", () -> {
            UnitKitchens x = kit();
            x.addUnit(0, 3, 0, 1, 30);
            x.cook(0, 0, 3);
            is(x.pass(1), 3);
        });
        edge("A minute 6", "meals of just setting 3 minutes are served, older ones are thrown away first", () -> {
            UnitKitchens x = kit();
            x.set(3, 5);
            x.cook(0, 0, 3);
            x.addUnit(0, 3, 0, 6, 30);
            is(x.pass(6), 3);
            UnitKitchens y = kit();
            y.set(3, 5);
            y.cook(0, 0, 3);
            y.addUnit(0, 3, 0, 7, 30);
            is(y.pass(7), 0);
            is(y.count(9), 3);
        });
        edge("A minute 6", "a lorry serves in the minute in which it comes to stand, not a minute before", () -> {
            for (int call = 7; call <= 8; call++) {
                UnitKitchens x = kit();
                cookAll(x, 0, 0, 3);
                x.load(0, 0, 0, 3);
                x.addUnit(1, 3, 0, call - 1, 30);
                is(x.drive(0, 1), 7);
                is(x.pass(6), 0);
                is(x.pass(1), 3);
                is(x.lorry(0, 7), 3);
            }
        });
        edge("A minute 6", "a lorry that drives away no longer serves", () -> {
            UnitKitchens x = kit();
            cookAll(x, 0, 0, 3);
            x.load(0, 0, 0, 3);
            x.addUnit(0, 3, 0, 1, 30);
            x.drive(0, 1);
            is(x.pass(1), 0);
        });
        edge("A minute 6", "a kitchen serves where no lorry stands, a lorry where no kitchen is", () -> {
            UnitKitchens x = kit();
            cookAll(x, 0, 0, 6);
            x.load(0, 0, 0, 3);
            x.drive(0, 1);
            x.pass(7);
            x.addUnit(0, 3, 0, 1, 30);
            x.addUnit(1, 3, 0, 1, 30);
            is(x.pass(1), 6);
            is(x.kitchen(0, 6), 0);
            is(x.lorry(0, 7), 3);
        });
        edge("A minute 6", "another place at the same x and y is another place", () -> {
            UnitKitchens x = kit();
            cookAll(x, 0, 0, 3);
            x.load(0, 0, 0, 1);
            x.addUnit(2, 3, 0, 1, 30);
            is(x.pass(1), 0);
            x.move(0, 0);
            is(x.pass(1), 3);
        });
        edge("A minute 6", "a unit that has wrapped or joined is not served", () -> {
            UnitKitchens x = kit();
            x.addUnit(0, 3, 0, 1, 30);
            x.addUnit(0, 2, 0, 1, 30);
            x.addUnit(0, 1, 0, 600, 30);
            x.pass(1);
            x.wrap(0);
            x.join(1, 2);
            x.cook(0, 0, 9);
            is(x.pass(1), 2);
            is(x.unit(0, 9), 0);
            is(x.unit(1, 9), 0);
            is(x.unit(2, 9), 2);
        });
    }

    private static void orderOfTheThreeCases() {
        edge("A minute 6", "the only meal goes to the greens", () -> {
            for (int dish = 0; dish < 3; dish += 2) {
                UnitKitchens x = kit();
                x.addUnit(0, 2, 1, 1, 30);
                x.cook(0, dish, 1);
                is(x.pass(1), 1);
                is(x.unit(0, 6), 0);
                is(x.unit(0, 7), 1);
            }
        });
        edge("A minute 6", "greens do not eat dish 1", () -> {
            UnitKitchens x = kit();
            x.addUnit(0, 2, 1, 1, 30);
            x.cook(0, 1, 9);
            is(x.pass(1), 1);
            is(x.unit(0, 6), 1);
            is(x.unit(0, 7), 0);
            is(x.kitchen(0, 7), 8);
        });
        edge("A minute 6", "greens are served out of all that stand there ahead of the others", () -> {
            // the lorry's meal would go to the other if each holder was gone through for all three cases
            UnitKitchens x = kit();
            x.addKitchen(0);
            cookAll(x, 0, 0, 2);
            x.load(0, 0, 0, 1);
            x.addUnit(0, 3, 2, 1, 30);
            is(x.pass(1), 2);
            is(x.unit(0, 6), 0);
            is(x.unit(0, 7), 1);
        });
        edge("A minute 6", "others take dish 1 out of a kitchen ahead of dish 0 or 2 out of a lorry", () -> {
            for (int dish = 0; dish < 3; dish += 2) {
                UnitKitchens x = kit();
                cookAll(x, 0, dish, 1);
                x.load(0, 0, dish, 1);
                cookAll(x, 0, 1, 1);
                x.addUnit(0, 1, 0, 1, 30);
                is(x.pass(1), 1);
                is(x.count(10), 0);
                is(x.count(11), 1);
            }
        });
        edge("A minute 6", "others that are left take the dishes 0 and 2", () -> {
            UnitKitchens x = kit();
            cookAll(x, 0, 0, 2);
            cookAll(x, 0, 2, 2);
            cookAll(x, 0, 1, 1);
            x.addUnit(0, 4, 0, 1, 30);
            is(x.pass(1), 4);
            is(x.kitchen(0, 6), 0);
            is(x.kitchen(0, 7), 0);
            is(x.kitchen(0, 8), 1);
        });
    }

    /** Lorries 0 and 1 and kitchens 0 and 1, all at place 0, with one meal of dish 0 each. */
    private static UnitKitchens fourHolders() {
        UnitKitchens x = kit();
        x.addLorry(0);
        x.addKitchen(0);
        x.stock(1, 0, 1);
        x.stock(1, 1, 1);
        x.cook(0, 0, 3);
        x.cook(1, 0, 1);
        x.pass(1);
        x.load(0, 0, 0, 1);
        x.load(1, 0, 0, 1);
        return x;
    }

    private static void orderOfHolders() {
        edge("A minute 6", "out of lorries by ascending numbers, then out of kitchens by ascending numbers", () -> {
            for (int people = 1; people <= 5; people++) {
                for (int greens = 0; greens <= people; greens += people) {
                    UnitKitchens x = fourHolders();
                    x.addUnit(0, people, greens, 1, 30);
                    is(x.pass(1), Math.min(4, people));
                    is(x.lorry(0, 3), 0);
                    is(x.lorry(1, 3), people < 2 ? 1 : 0);
                    is(x.kitchen(0, 6), people < 3 ? 1 : 0);
                    is(x.kitchen(1, 6), people < 4 ? 1 : 0);
                    is(x.lorry(0, 7), 1);
                    is(x.lorry(1, 7), people < 2 ? 0 : 1);
                }
            }
        });
        edge("A minute 6", "of two units the one with the lower number is served first", () -> {
            UnitKitchens x = kit();
            x.addUnit(0, 1, 0, 1, 30);
            x.addUnit(0, 1, 1, 1, 30);
            x.cook(0, 0, 1);
            is(x.pass(1), 1);
            is(x.unit(0, 9), 1);
            is(x.unit(1, 9), 0);
        });
        edge("A minute 6", "a newer meal of lorry 0 goes ahead of an older one of lorry 1", () -> {
            UnitKitchens x = kit();
            x.addLorry(0);
            cookAll(x, 0, 0, 1);
            x.load(1, 0, 0, 1);
            cookAll(x, 0, 0, 1);
            x.load(0, 0, 0, 1);
            x.addUnit(0, 1, 0, 1, 30);
            is(x.pass(1), 1);
            is(x.lorry(0, 3), 0);
            is(x.lorry(1, 3), 1);
        });
    }

    private static void orderOfMeals() {
        edge("A minute 6", "meals that were cooked first are taken first, whichever their dish", () -> {
            for (int first = 0; first < 3; first += 2) {
                for (int greens = 0; greens < 2; greens++) {
                    UnitKitchens x = kit();
                    cookAll(x, 0, first, 1);
                    cookAll(x, 0, 2 - first, 1);
                    x.addUnit(0, 1, greens, 1, 30);
                    is(x.pass(1), 1);
                    is(x.kitchen(0, 6 + first), 0);
                    is(x.kitchen(0, 8 - first), 1);
                }
            }
        });
        edge("A minute 6", "the first and the last minute in which a meal is kept are in order", () -> {
            UnitKitchens x = kit();
            x.set(3, 60);
            cookAll(x, 0, 2, 1);
            x.pass(59);
            x.cook(0, 0, 1);
            x.addUnit(0, 1, 1, 1, 30);
            is(x.pass(1), 1);
            is(x.kitchen(0, 6), 1);
            is(x.kitchen(0, 8), 0);
            is(x.kitchen(0, 9), 61);
        });
        edge("A minute 6", "in one minute dish 0 goes ahead of dish 2", () -> {
            for (int greens = 0; greens < 2; greens++) {
                UnitKitchens x = kit();
                x.addKitchen(0);
                x.stock(1, 1, 2);
                x.cook(0, 0, 1);
                x.cook(1, 2, 1);
                x.pass(1);
                x.load(0, 1, 2, 1);
                x.load(0, 0, 0, 1);
                x.addUnit(0, 1, greens, 1, 30);
                is(x.pass(1), 1);
                is(x.lorry(0, 3), 0);
                is(x.lorry(0, 5), 1);
            }
        });
    }

    /** A film in which 5 meals are owed since minute 1, and are never served. */
    private static UnitKitchens owing(int grace, int penalty) {
        UnitKitchens x = places();
        x.set(1, grace);
        x.set(2, penalty);
        x.addUnit(0, 5, 2, 1, 600);
        return x;
    }

    private static void penalties() {
        edge("A minute 7", "none after just setting 1 minutes, one after a minute more", () -> {
            int[] graces = {0, 1, 15, 120};
            for (int grace : graces) {
                UnitKitchens x = owing(grace, 1);
                x.pass(1 + grace);
                is(x.unit(0, 10), 0);
                x.pass(1);
                is(x.unit(0, 10), 5);
                x.pass(1);
                is(x.unit(0, 10), 10);
            }
        });
        edge("A minute 7", "the least and the greatest setting 2", () -> {
            UnitKitchens x = owing(0, 0);
            x.pass(200);
            is(x.unit(0, 10), 0);
            UnitKitchens y = owing(0, 20);
            y.pass(2);
            is(y.unit(0, 10), 100);
        });
        edge("A minute 7", "meals that are served in the minute cost nothing", () -> {
            UnitKitchens x = kit();
            x.set(1, 0);
            x.addUnit(0, 5, 2, 1, 600);
            x.pass(1);
            x.cook(0, 0, 4);
            x.pass(1);
            is(x.unit(0, 10), 1);
        });
        edge("A minute 7", "no penalty without meals that are owed", () -> {
            UnitKitchens x = places();
            x.set(1, 0);
            x.addUnit(0, 5, 2, 600, 600);
            x.pass(200);
            is(x.unit(0, 10), 0);
        });
    }

    /** A film whose unit has 444 * 250 less than the greatest penalty, with 37 * 250 meals owed to it. */
    private static UnitKitchens nearTheEnd() {
        UnitKitchens x = places();
        x.set(1, 0);
        x.set(2, 20);
        x.addUnit(0, 250, 0, 1, 30);
        x.pass(1);
        x.set(2, 8);
        x.pass(2);
        x.set(2, 20);
        passAll(x, 1077);
        x.set(2, 0);
        x.pass(1);
        return x;
    }

    private static void greatestPenalty() {
        edge("A minute 7", "at most 100000000: just below it, just at it, and what would be above it", () -> {
            int[][] due = {{11, 100000000 - 37 * 250}, {12, 100000000}, {13, 100000000}, {20, 100000000}};
            for (int[] row : due) {
                UnitKitchens x = nearTheEnd();
                is(x.unit(0, 10), 100000000 - 444 * 250);
                is(x.unit(0, 7), 37 * 250);
                x.set(2, row[0]);
                is(x.ifPassed(1, 2), row[1] - 100000000 + 444 * 250);
                x.pass(1);
                is(x.unit(0, 10), row[1]);
            }
        });
        edge("A minute 7", "at most 100000000: it stays there, and is not that of another unit", () -> {
            UnitKitchens x = nearTheEnd();
            x.set(2, 20);
            x.addUnit(1, 1, 0, 1, 600);
            x.pass(200);
            is(x.unit(0, 10), 100000000);
            is(x.unit(1, 10), 199 * 20);
            is(x.count(15), 100000000 + 199 * 20);
            is(x.ifPassed(1, 2), 20);
        });
        edge("A minute 7", "at most 100000000 each: the sum of twelve", () -> {
            UnitKitchens x = places();
            x.set(2, 20);
            for (int i = 0; i < 12; i++) {
                x.addUnit(0, 300, 0, 1, 30);
            }
            passAll(x, 1200);
            is(x.count(15), 1200000000);
            passAll(x, 18800);
            is(x.count(15), 1200000000);
            is(x.count(13), 12 * 300 * 667);
        });
    }

    private static void owedSince() {
        edge("A minute 7", "since the minute of the first call, not of a later one", () -> {
            UnitKitchens x = places();
            x.addUnit(0, 5, 2, 1, 30);
            is(x.unit(0, 8), NONE);
            x.pass(1);
            is(x.unit(0, 8), 1);
            x.pass(30);
            is(x.unit(0, 8), 1);
        });
        edge("A minute 7", "since the same minute while one meal is left", () -> {
            UnitKitchens x = kit();
            x.addUnit(0, 5, 2, 1, 30);
            x.cook(0, 0, 4);
            x.pass(31);
            is(x.unit(0, 8), 1);
        });
        edge("A minute 7", "since a new minute when all had been served", () -> {
            UnitKitchens x = kit();
            x.addUnit(0, 5, 2, 1, 30);
            x.cook(0, 0, 5);
            x.pass(1);
            is(x.unit(0, 8), NONE);
            x.pass(29);
            is(x.unit(0, 8), NONE);
            x.pass(1);
            is(x.unit(0, 8), 31);
            x.pass(15);
            is(x.unit(0, 10), 0);
            x.pass(1);
            is(x.unit(0, 10), 5);
        });
    }

    // ---- settings, exceptions

    private static void settings() {
        int[][] rows = {{1, 50, 10}, {0, 120, 15}, {0, 20, 1}, {5, 60, 40}, {1, 20, 5}, {10, 500, 120}};
        for (int i = 0; i < 6; i++) {
            int setting = i;
            int[] row = rows[i];
            edge("Terms, setting " + setting, "its first value, the least, the greatest, the first on either side", () -> {
                UnitKitchens x = new UnitKitchens();
                is(x.setting(setting), row[2]);
                is(x.set(setting, row[0]), row[2]);
                is(x.setting(setting), row[0]);
                is(x.set(setting, row[1]), row[0]);
                is(x.setting(setting), row[1]);
                refusedOutside(ARGUMENT, Edges::busy, (film, v) -> film.set(setting, v), row[0], row[1]);
            });
        }
    }

    private static void exceptions() {
        edge("Terms, exceptions", "a call that throws saves no state, and drops none of six", () -> {
            refused(ARGUMENT, Edges::full, film -> film.set(0, 0));
            refused(INDEX, Edges::full, film -> film.move(0, 8));
            refused(STATE, Edges::full, film -> film.split(0, 1, 1));
        });
        edge("Terms, exceptions", "the one that is named first is thrown: index, argument, state", () -> {
            refused(INDEX, Edges::full, film -> film.addUnit(8, 0, 0, 1, 30));
            refused(ARGUMENT, Edges::full, film -> film.addUnit(0, 0, 0, 1, 30));
            refused(STATE, Edges::full, film -> film.addUnit(0, 1, 0, 1, 30));
        });
    }
}
