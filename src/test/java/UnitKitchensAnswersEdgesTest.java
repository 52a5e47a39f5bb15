import java.math.BigInteger;
import java.util.ArrayList;
import java.util.List;

/** The boundary cases that the promises 22 to 34 of ../shared/DOC.md name: what there is, and what would be. */
public final class UnitKitchensAnswersEdgesTest extends Edges {
    public static void main(String[] args) {
        indexesAndProperties();
        place();
        unit();
        kitchen();
        lorry();
        count();
        ifPassed();
        ifPassedAtTheEnd();
        callsIn();
        canCook();
        lorriesThatHaveNone();
        nearestLorry();
        lorriesAsNear();
        enoughGrace();
        enoughGraceWithoutGrowth();
        servedShare();
        digest();
        digestOfTexts();
        end();
    }

    // ---- promises 22 to 27

    private static void indexesAndProperties() {
        edge("promise 22", "the first and the last place are told of, none beside them", () -> {
            is(full().place(0, 0), 0);
            is(full().place(7, 0), 7);
            refusedOutside(INDEX, Edges::full, (film, v) -> film.place(v, 0), 0, 7);
            refusedOutside(INDEX, Edges::busy, (film, v) -> film.place(v, 6), 0, 3);
            refusedFor(INDEX, UnitKitchens::new, (film, v) -> film.place(v, 0), 0, -1, 1);
            refusedOutside(INDEX, Edges::busy, (film, v) -> film.place(v, 7), 0, 3);
        });
        edge("promise 22", "what is 0 to 6", () ->
                refusedOutside(ARGUMENT, Edges::busy, (film, v) -> film.place(3, v), 0, 6));
        edge("promise 23", "the first and the last unit are told of, none beside them", () -> {
            is(full().unit(0, 2), 10);
            is(full().unit(11, 2), 10);
            refusedOutside(INDEX, Edges::full, (film, v) -> film.unit(v, 0), 0, 11);
            refusedOutside(INDEX, Edges::busy, (film, v) -> film.unit(v, 11), 0, 5);
            refusedFor(INDEX, Edges::places, (film, v) -> film.unit(v, 0), 0, -1, 1);
            refusedOutside(INDEX, Edges::busy, (film, v) -> film.unit(v, 12), 0, 5);
        });
        edge("promise 23", "what is 0 to 11, for one that works, has wrapped or has joined", () -> {
            refusedOutside(ARGUMENT, Edges::busy, (film, v) -> film.unit(0, v), 0, 11);
            refusedOutside(ARGUMENT, Edges::busy, (film, v) -> film.unit(2, v), 0, 11);
            refusedOutside(ARGUMENT, Edges::busy, (film, v) -> film.unit(3, v), 0, 11);
        });
        edge("promise 24", "the first and the last kitchen are told of, none beside them", () -> {
            is(full().kitchen(0, 1), 0);
            is(full().kitchen(2, 1), 0);
            refusedOutside(INDEX, Edges::full, (film, v) -> film.kitchen(v, 0), 0, 2);
            refusedOutside(INDEX, Edges::busy, (film, v) -> film.kitchen(v, 11), 0, 1);
            refusedFor(INDEX, Edges::places, (film, v) -> film.kitchen(v, 0), 0, -1, 1);
            refusedOutside(INDEX, Edges::busy, (film, v) -> film.kitchen(v, 12), 0, 1);
        });
        edge("promise 24", "what is 0 to 11", () ->
                refusedOutside(ARGUMENT, Edges::busy, (film, v) -> film.kitchen(1, v), 0, 11));
        edge("promise 25", "the first and the last lorry are told of, none beside them", () -> {
            is(full().lorry(0, 2), 0);
            is(full().lorry(3, 2), 0);
            refusedOutside(INDEX, Edges::full, (film, v) -> film.lorry(v, 0), 0, 3);
            refusedOutside(INDEX, Edges::busy, (film, v) -> film.lorry(v, 8), 0, 2);
            refusedFor(INDEX, Edges::places, (film, v) -> film.lorry(v, 0), 0, -1, 1);
            refusedOutside(INDEX, Edges::busy, (film, v) -> film.lorry(v, 9), 0, 2);
        });
        edge("promise 25", "what is 0 to 8", () ->
                refusedOutside(ARGUMENT, Edges::busy, (film, v) -> film.lorry(1, v), 0, 8));
        edge("promise 26", "what is 0 to 16", () ->
                refusedOutside(ARGUMENT, Edges::busy, UnitKitchens::count, 0, 16));
        edge("promise 27", "the first and the last setting are told of, none beside them", () -> {
            is(busy().setting(0), 10);
            is(busy().setting(5), 120);
            refusedOutside(INDEX, Edges::busy, UnitKitchens::setting, 0, 5);
        });
        edge("promises 22 to 27", "they only tell", () -> {
            onlyTells(Edges::busy, film -> place(film, 0).size() + unit(film, 0).size() + unit(film, 2).size());
            onlyTells(Edges::busy, film -> kitchen(film, 0).size() + lorry(film, 1).size() + counts(film).size());
            onlyTells(Edges::busy, film -> film.setting(3));
        });
    }

    private static void place() {
        edge("promise 22", "an empty place", () -> are(place(places(), 3), 99, 99, 0, 0, 0, 0, 0));
        edge("promise 22", "a place with all units, kitchens and lorries", () -> {
            UnitKitchens x = full();
            x.pass(1);
            are(place(x, 0), 0, 0, 12, 3, 4, 0, 120);
            are(place(x, 1), 3, 4, 0, 0, 0, 0, 0);
        });
        edge("promise 22", "a lorry that drives is nowhere, and its meals neither", () -> {
            UnitKitchens x = kit();
            cookAll(x, 0, 0, 9);
            x.load(0, 0, 0, 4);
            are(place(x, 0), 0, 0, 0, 1, 1, 9, 0);
            x.drive(0, 2);
            are(place(x, 0), 0, 0, 0, 1, 0, 5, 0);
            are(place(x, 2), 0, 0, 0, 0, 0, 0, 0);
            x.pass(1);
            are(place(x, 2), 0, 0, 0, 0, 1, 4, 0);
        });
        edge("promise 22", "units that have wrapped or joined are not there, nor what was owed to the first", () -> {
            UnitKitchens x = full();
            x.pass(1);
            x.wrap(0);
            x.join(1, 2);
            are(place(x, 0), 0, 0, 10, 3, 4, 0, 110);
        });
    }

    private static void unit() {
        edge("promise 23", "the state: 0, 1, 2", () -> {
            UnitKitchens x = busy();
            is(x.unit(0, 0), 0);
            is(x.unit(2, 0), 1);
            is(x.unit(3, 0), 2);
        });
        edge("promise 23", "for one that has wrapped 1 to 8 are NONE, 0 and 9 to 11 are not", () -> {
            UnitKitchens x = kit();
            x.set(1, 0);
            x.addUnit(0, 5, 2, 1, 30);
            x.cook(0, 0, 3);
            x.pass(3);
            x.wrap(0);
            are(unit(x, 0), 1, NONE, NONE, NONE, NONE, NONE, NONE, NONE, NONE, 3, 4, 2);
            x.pass(60);
            are(unit(x, 0), 1, NONE, NONE, NONE, NONE, NONE, NONE, NONE, NONE, 3, 4, 2);
        });
        edge("promise 23", "for one that has joined 1 to 8 are NONE, 0 and 9 to 11 are not", () -> {
            UnitKitchens x = kit();
            x.set(1, 0);
            x.addUnit(0, 5, 2, 1, 30);
            x.addUnit(0, 6, 2, 500, 30);
            x.cook(0, 0, 3);
            x.pass(3);
            x.join(0, 1);
            are(unit(x, 0), 2, NONE, NONE, NONE, NONE, NONE, NONE, NONE, NONE, 3, 4, 0);
            x.pass(1);
            are(unit(x, 0), 2, NONE, NONE, NONE, NONE, NONE, NONE, NONE, NONE, 3, 4, 0);
        });
        edge("promise 23", "the minute since which meals are owed is NONE without meals", () -> {
            UnitKitchens x = places();
            x.addUnit(0, 5, 2, 1, 30);
            is(x.unit(0, 8), NONE);
            x.pass(1);
            is(x.unit(0, 8), 1);
        });
    }

    private static void kitchen() {
        edge("promise 24", "the dish in the pot: NONE, 0, 2, and NONE again", () -> {
            UnitKitchens x = kit();
            is(x.kitchen(0, 4), NONE);
            x.cook(0, 0, 1);
            is(x.kitchen(0, 4), 0);
            x.pass(1);
            is(x.kitchen(0, 4), NONE);
            x.cook(0, 2, 1);
            is(x.kitchen(0, 4), 2);
        });
        edge("promise 24", "the oldest meal: NONE without meals, of whichever dish it is", () -> {
            for (int dish = 0; dish < 3; dish++) {
                UnitKitchens x = kit();
                is(x.kitchen(0, 9), NONE);
                x.cook(0, dish, 1);
                is(x.kitchen(0, 9), NONE);
                x.pass(1);
                is(x.kitchen(0, 9), 1);
                x.pass(40);
                is(x.kitchen(0, 9), 1);
                x.pass(1);
                is(x.kitchen(0, 9), NONE);
            }
        });
        edge("promise 24", "the oldest meal of 60 minutes, with one of just now", () -> {
            UnitKitchens x = kit();
            x.set(3, 60);
            cookAll(x, 0, 1, 1);
            x.pass(59);
            cookAll(x, 0, 0, 1);
            is(x.count(6), 61);
            is(x.kitchen(0, 9), 1);
            x.load(0, 0, 1, 1);
            is(x.kitchen(0, 9), 61);
            is(x.lorry(0, 6), 1);
        });
        edge("promise 24", "a full stock, a full pot", () -> {
            UnitKitchens x = kit();
            for (int what = 0; what < 3; what++) {
                x.stock(0, what, 499);
            }
            are(kitchen(x, 0), 0, 999, 999, 999, NONE, 0, 0, 0, 0, NONE, 0, 0);
            x.cook(0, 1, 300);
            are(kitchen(x, 0), 0, 699, 999, 699, 1, 300, 0, 0, 0, NONE, 0, 0);
        });
        edge("promise 24", "meals that were thrown away out of a lorry are not the kitchen's", () -> {
            UnitKitchens x = kit();
            cookAll(x, 0, 0, 5);
            x.load(0, 0, 0, 2);
            x.pass(41);
            is(x.kitchen(0, 11), 3);
            is(x.lorry(0, 8), 2);
        });
    }

    private static void lorry() {
        edge("promise 25", "the place is NONE if it drives, the other place is NONE if it stands", () -> {
            UnitKitchens x = kit();
            are(lorry(x, 0), 0, NONE, 0, 0, 0, 0, NONE, 0, 0);
            x.drive(0, 2);
            are(lorry(x, 0), NONE, 2, 1, 0, 0, 0, NONE, 0, 0);
            x.pass(1);
            are(lorry(x, 0), 2, NONE, 0, 0, 0, 0, NONE, 0, 0);
            x.drive(0, 0);
            are(lorry(x, 0), NONE, 0, 1, 0, 0, 0, NONE, 0, 0);
        });
        edge("promise 25", "the oldest meal: NONE without meals", () -> {
            UnitKitchens x = kit();
            cookAll(x, 0, 0, 1);
            is(x.lorry(0, 6), NONE);
            x.load(0, 0, 0, 1);
            is(x.lorry(0, 6), 1);
            x.unload(0, 0);
            is(x.lorry(0, 6), NONE);
        });
        edge("promise 25", "meals that were unloaded are neither served nor thrown away", () -> {
            UnitKitchens x = kit();
            cookAll(x, 0, 0, 9);
            x.load(0, 0, 0, 9);
            x.unload(0, 0);
            are(lorry(x, 0), 0, NONE, 0, 0, 0, 0, NONE, 0, 0);
        });
    }

    private static void count() {
        edge("promise 26", "all of a new film are 0", () ->
                are(counts(new UnitKitchens()), 0, 0, 0, 0, 0, 0, 0, 0, 0, 0, 0, 0, 0, 0, 0, 0, 0));
        edge("promise 26", "all of a full film", () -> {
            UnitKitchens x = full();
            are(counts(x), 8, 3, 4, 12, 12, 120, 0, 0, 0, 0, 0, 0, 0, 0, 0, 0, 6);
            x.pass(1);
            are(counts(x), 8, 3, 4, 12, 12, 120, 1, 0, 0, 0, 0, 0, 120, 120, 0, 0, 6);
        });
        edge("promise 26", "the most people: 12 units of 300", () -> {
            UnitKitchens x = places();
            for (int i = 0; i < 12; i++) {
                x.addUnit(0, 300, 0, 1, 30);
            }
            is(x.count(5), 3600);
        });
        edge("promise 26", "units that have wrapped or joined are units, but do not work", () -> {
            UnitKitchens x = full();
            x.pass(1);
            x.wrap(0);
            x.join(1, 2);
            are(counts(x), 8, 3, 4, 12, 10, 110, 1, 0, 0, 0, 0, 0, 120, 110, 10, 0, 6);
        });
        edge("promise 26", "the greatest minute", () -> is(atMinute(20000).count(6), 20000));
        edge("promise 26", "meals in a pot are in no row yet", () -> {
            UnitKitchens x = kit();
            x.cook(0, 0, 21);
            is(x.count(10), 0);
            is(x.count(7), 0);
            x.pass(1);
            is(x.count(10), 20);
            is(x.count(7), 20);
        });
        edge("promise 26", "meals in a lorry that drives are in lorries", () -> {
            UnitKitchens x = kit();
            cookAll(x, 0, 0, 9);
            x.load(0, 0, 0, 4);
            x.drive(0, 3);
            is(x.count(10), 5);
            is(x.count(11), 4);
        });
        edge("promise 26", "saved states: 0 to 6", () -> {
            UnitKitchens x = new UnitKitchens();
            for (int i = 1; i <= 8; i++) {
                x.set(0, i);
                is(x.count(16), Math.min(6, i));
            }
        });
    }

    // ---- promises 28 and 29

    private static void ifPassed() {
        edge("promise 28", "minutes are 1 to 200", () -> {
            UnitKitchens x = kit();
            x.addUnit(0, 5, 2, 1, 600);
            x.addUnit(0, 7, 2, 200, 600);
            x.addUnit(0, 9, 2, 201, 600);
            is(x.ifPassed(1, 3), 5);
            is(x.ifPassed(199, 3), 5);
            is(x.ifPassed(200, 3), 12);
            for (int i = 0; i < 4; i++) {
                int what = i;
                refusedOutside(ARGUMENT, Edges::busy, (film, v) -> film.ifPassed(v, what), 1, 200);
            }
        });
        edge("promise 28", "what is 0 to 3", () ->
                refusedOutside(ARGUMENT, Edges::busy, (film, v) -> film.ifPassed(1, v), 0, 3));
        edge("promise 28", "nothing in an empty film", () -> {
            for (int what = 0; what < 4; what++) {
                is(new UnitKitchens().ifPassed(1, what), 0);
                is(new UnitKitchens().ifPassed(200, what), 0);
            }
        });
        edge("promise 28", "it tells what pass() then does, and changes nothing", () -> {
            for (int minutes : new int[] {1, 2, 20, 33, 34, 35, 200}) {
                UnitKitchens x = busy();
                int[] due = new int[4];
                for (int what = 0; what < 4; what++) {
                    due[what] = x.ifPassed(minutes, what);
                }
                int thrown = x.count(9);
                int penalties = x.count(15);
                is(x.pass(minutes), due[0]);
                is(x.count(9) - thrown, due[1]);
                is(x.count(15) - penalties, due[2]);
                is(x.count(13), due[3]);
            }
            onlyTells(Edges::busy, film -> film.ifPassed(200, 0));
            onlyTells(Edges::busy, film -> film.ifPassed(1, 3));
        });
        edge("promise 28", "meals are thrown away after just setting 3 minutes and one more", () -> {
            UnitKitchens x = kit();
            cookAll(x, 0, 0, 9);
            is(x.ifPassed(40, 1), 0);
            is(x.ifPassed(41, 1), 9);
        });
        edge("promise 28", "what was served, thrown away and charged before does not count", () -> {
            UnitKitchens x = kit();
            x.set(1, 0);
            x.addUnit(0, 5, 2, 1, 600);
            cookAll(x, 0, 0, 3);
            cookAll(x, 0, 1, 6);
            x.addUnit(1, 4, 2, 1, 600);
            x.pass(41);
            is(x.count(8), 5);
            is(x.count(9), 4);
            is(x.count(15), 4 * 40);
            is(x.ifPassed(1, 0), 0);
            is(x.ifPassed(1, 1), 0);
            is(x.ifPassed(1, 2), 4);
            is(x.ifPassed(1, 3), 4);
        });
        edge("promise 28", "penalties grow after just setting 1 minutes and one more", () -> {
            UnitKitchens x = places();
            x.addUnit(0, 5, 2, 1, 600);
            is(x.ifPassed(16, 2), 0);
            is(x.ifPassed(17, 2), 5);
        });
    }

    private static void ifPassedAtTheEnd() {
        edge("promise 28", "the limit of the minute does not matter", () -> {
            UnitKitchens x = atMinute(20000);
            x.addUnit(0, 5, 2, 200, 600);
            is(x.ifPassed(199, 3), 0);
            is(x.ifPassed(200, 3), 5);
            UnitKitchens y = atMinute(19999);
            y.addUnit(0, 5, 2, 2, 600);
            is(y.ifPassed(1, 3), 0);
            is(y.ifPassed(2, 3), 5);
            onlyTells(() -> atMinute(20000), film -> film.ifPassed(200, 0));
        });
        edge("promise 29", "the limit of the minute does not matter", () -> {
            UnitKitchens x = atMinute(20000);
            x.addUnit(0, 5, 2, 1, 30);
            is(x.callsIn(1, 0), 2);
            is(x.callsIn(1000, 1), 34 * 3);
        });
        edge("promise 32", "the limit of the minute does not matter", () -> {
            UnitKitchens x = atMinute(20000);
            x.addUnit(0, 5, 2, 1, 600);
            is(x.enoughGrace(121), 120);
            is(x.enoughGrace(122), NONE);
        });
        edge("promise 34", "the limit of the minute does not matter", () -> {
            UnitKitchens x = atMinute(20000);
            x.addUnit(0, 5, 2, 1, 30);
            is(x.digest(), hashed(x, ""));
            is(x.count(6), 20000);
        });
    }

    private static void callsIn() {
        edge("promise 29", "minutes are 1 to 1000", () -> {
            UnitKitchens x = places();
            x.addUnit(0, 5, 2, 1, 600);
            is(x.callsIn(1, 0), 2);
            is(x.callsIn(1, 1), 3);
            is(x.callsIn(1000, 0), 4);
            refusedOutside(ARGUMENT, Edges::busy, (film, v) -> film.callsIn(v, 0), 1, 1000);
            refusedOutside(ARGUMENT, Edges::busy, (film, v) -> film.callsIn(v, 1), 1, 1000);
        });
        edge("promise 29", "what is 0 to 1", () ->
                refusedOutside(ARGUMENT, Edges::busy, (film, v) -> film.callsIn(1, v), 0, 1));
        edge("promise 29", "a call in just the last of the minutes, and one a minute later", () -> {
            UnitKitchens x = places();
            x.addUnit(0, 5, 2, 600, 400);
            is(x.callsIn(599, 1), 0);
            is(x.callsIn(600, 1), 3);
            is(x.callsIn(999, 1), 3);
            is(x.callsIn(1000, 1), 6);
        });
        edge("promise 29", "from a later minute on, that of a call included neither before nor behind", () -> {
            UnitKitchens x = places();
            x.addUnit(0, 5, 2, 3, 30);
            x.pass(3);
            is(x.callsIn(29, 0), 0);
            is(x.callsIn(30, 0), 2);
            is(x.callsIn(59, 0), 2);
            is(x.callsIn(60, 0), 4);
        });
        edge("promise 29", "nobody, greens alone, others alone", () -> {
            is(new UnitKitchens().callsIn(1000, 0), 0);
            UnitKitchens x = places();
            x.addUnit(0, 5, 5, 1, 30);
            is(x.callsIn(1, 0), 5);
            is(x.callsIn(1, 1), 0);
            UnitKitchens y = places();
            y.addUnit(0, 5, 0, 1, 30);
            is(y.callsIn(1, 0), 0);
            is(y.callsIn(1, 1), 5);
        });
        edge("promise 29", "the most: 12 units of 300 in 1000 minutes", () -> {
            UnitKitchens x = places();
            for (int i = 0; i < 12; i++) {
                x.addUnit(0, 300, 300, 1, 30);
            }
            is(x.callsIn(1000, 0), 12 * 300 * 34);
        });
        edge("promise 29", "none of a unit that has wrapped or joined", () -> {
            UnitKitchens x = places();
            x.addUnit(0, 5, 2, 1, 600);
            x.addUnit(0, 6, 2, 2, 600);
            x.addUnit(0, 7, 2, 3, 600);
            x.wrap(0);
            x.join(1, 2);
            is(x.callsIn(2, 0) + x.callsIn(2, 1), 0);
            is(x.callsIn(3, 0), 4);
            is(x.callsIn(3, 1), 9);
        });
        edge("promise 29", "what is owed already does not count, and nothing is changed", () -> {
            UnitKitchens x = places();
            x.addUnit(0, 5, 2, 1, 600);
            x.pass(1);
            is(x.callsIn(599, 0), 0);
            is(x.callsIn(600, 0), 2);
            onlyTells(Edges::busy, film -> film.callsIn(1000, 1));
        });
    }

    // ---- promise 30

    private static int cookable(int dish, int grain, int greens, int meat) {
        UnitKitchens x = places();
        x.addKitchen(0);
        int[] stock = {grain, greens, meat};
        for (int what = 0; what < 3; what++) {
            for (int left = stock[what]; left > 0; left -= 500) {
                x.stock(0, what, Math.min(500, left));
            }
        }
        return x.canCook(0, dish);
    }

    private static void canCook() {
        edge("promise 30", "the first and the last kitchen are told of, none beside them", () -> {
            is(full().canCook(0, 0), 0);
            is(full().canCook(2, 0), 0);
            refusedOutside(INDEX, Edges::full, (film, v) -> film.canCook(v, 0), 0, 2);
            refusedOutside(INDEX, Edges::busy, (film, v) -> film.canCook(v, 0), 0, 1);
            refusedFor(INDEX, Edges::places, (film, v) -> film.canCook(v, 0), 0, -1, 1);
        });
        edge("promise 30", "dish is 0 to 2", () ->
                refusedOutside(ARGUMENT, Edges::busy, (film, v) -> film.canCook(1, v), 0, 2));
        edge("promise 30", "of both exceptions that of the index is thrown", () ->
                refusedOutside(INDEX, Edges::busy, (film, v) -> film.canCook(v, 3), 0, 1));
        edge("promise 30", "an empty stock, and one ingredient alone", () -> {
            for (int dish = 0; dish < 3; dish++) {
                is(cookable(dish, 0, 0, 0), 0);
            }
            is(cookable(0, 999, 0, 999), 0);
            is(cookable(0, 0, 999, 999), 0);
            is(cookable(1, 999, 999, 0), 0);
            is(cookable(1, 0, 999, 999), 0);
            is(cookable(2, 999, 1, 999), 0);
            is(cookable(2, 0, 2, 0), 1);
        });
        edge("promise 30", "at most 300: 299, 300, 301 and a full stock", () -> {
            is(cookable(0, 299, 999, 0), 299);
            is(cookable(0, 999, 300, 0), 300);
            is(cookable(0, 301, 301, 0), 300);
            is(cookable(0, 999, 999, 999), 300);
            is(cookable(1, 300, 0, 299), 299);
            is(cookable(1, 300, 0, 300), 300);
            is(cookable(1, 999, 0, 999), 300);
            is(cookable(2, 0, 599, 0), 299);
            is(cookable(2, 0, 600, 0), 300);
            is(cookable(2, 0, 602, 0), 300);
            is(cookable(2, 0, 999, 0), 300);
        });
        edge("promise 30", "a pot that is in use does not matter, and nothing is changed", () -> {
            UnitKitchens x = kit();
            x.cook(0, 0, 300);
            is(x.canCook(0, 0), 200);
            is(x.canCook(0, 2), 100);
            onlyTells(Edges::busy, film -> film.canCook(0, 0));
        });
    }

    // ---- promise 31

    private static void lorriesThatHaveNone() {
        edge("promise 31", "the first and the last unit are taken, none beside them", () -> {
            is(full().bestLorry(0), NONE);
            is(full().bestLorry(11), NONE);
            refusedOutside(INDEX, Edges::full, UnitKitchens::bestLorry, 0, 11);
            refusedOutside(INDEX, Edges::busy, UnitKitchens::bestLorry, 0, 5);
            refusedFor(INDEX, Edges::places, UnitKitchens::bestLorry, 0, -1, 1);
        });
        edge("promise 31", "NONE without a lorry, and with lorries without meals", () -> {
            UnitKitchens x = places();
            x.addUnit(0, 5, 2, 1, 30);
            is(x.bestLorry(0), NONE);
            x.addLorry(0);
            is(x.bestLorry(0), NONE);
        });
        edge("promise 31", "one meal is enough, if somebody of the unit eats it", () -> {
            int[][] due = {{0, 0, 0}, {0, 0, NONE}, {0, 0, 0}};
            for (int dish = 0; dish < 3; dish++) {
                UnitKitchens x = kit();
                cookAll(x, 0, dish, 1);
                x.load(0, 0, dish, 1);
                x.addUnit(0, 5, 0, 500, 30);
                x.addUnit(0, 5, 4, 500, 30);
                x.addUnit(0, 5, 5, 500, 30);
                for (int unit = 0; unit < 3; unit++) {
                    is(x.bestLorry(unit), due[dish][unit]);
                }
            }
        });
        edge("promise 31", "NONE for a unit that has wrapped or joined", () -> {
            is(busy().bestLorry(2), NONE);
            is(busy().bestLorry(3), NONE);
            is(busy().bestLorry(1), 0);
        });
        edge("promise 31", "the last of four lorries", () -> {
            UnitKitchens x = kit();
            for (int i = 1; i < 4; i++) {
                x.addLorry(0);
            }
            cookAll(x, 0, 0, 1);
            x.load(3, 0, 0, 1);
            x.addUnit(3, 5, 0, 500, 30);
            is(x.bestLorry(0), 3);
        });
        edge("promise 31", "nothing is changed", () -> onlyTells(Edges::busy, film -> film.bestLorry(0)));
    }

    /** Lorries 0 and 1 at place 0 with so many meals of dish 0; a unit at place 1, to which they take 7 minutes. */
    private static UnitKitchens lorriesWith(int first, int second) {
        UnitKitchens x = kit();
        x.addLorry(0);
        cookAll(x, 0, 0, first + second);
        x.load(0, 0, 0, first);
        x.load(1, 0, 0, second);
        x.addUnit(1, 5, 2, 500, 30);
        return x;
    }

    private static void nearestLorry() {
        edge("promise 31", "one that stands there takes 0 minutes, fewer than one with 1 minute and more meals", () -> {
            UnitKitchens x = lorriesWith(1, 2);
            x.drive(1, 2);
            x.move(0, 0);
            is(x.bestLorry(0), 0);
            x.pass(1);
            is(x.bestLorry(0), 0);
            x.move(0, 2);
            is(x.bestLorry(0), 1);
        });
        edge("promise 31", "one that drives there: just the rest of its drive", () -> {
            UnitKitchens x = lorriesWith(1, 2);
            x.drive(0, 1);
            is(x.bestLorry(0), 1);
            x.pass(1);
            is(x.bestLorry(0), 0);
        });
        edge("promise 31", "one that drives elsewhere: the rest of its drive, and from there on", () -> {
            UnitKitchens x = lorriesWith(2, 1);
            x.drive(0, 2);
            // 1 minute to place 2 and 7 from there, against 7
            is(x.bestLorry(0), 1);
            x.pass(1);
            is(x.bestLorry(0), 0);
        });
        edge("promise 31", "one that drives away from the unit's place comes back from where it drives to", () -> {
            UnitKitchens x = lorriesWith(1, 1);
            x.move(0, 0);
            x.drive(0, 1);
            is(x.bestLorry(0), 1);
            x.drive(1, 3);
            is(x.bestLorry(0), 0);
        });
        edge("promise 31", "the drive from there on is by setting 0 as it is now, the rest of the drive is not", () -> {
            UnitKitchens x = lorriesWith(1, 2);
            x.drive(0, 1);
            x.set(0, 9);
            // 7 minutes are left of the drive; the other would take 7 * 9 / 10, rounded up: 7
            is(x.bestLorry(0), 1);
            x.set(0, 11);
            is(x.bestLorry(0), 0);
        });
        edge("promise 31", "the farthest is taken if there is no other", () -> {
            UnitKitchens x = lorriesWith(1, 1);
            x.set(0, 50);
            x.unload(1, 0);
            x.move(0, 3);
            x.drive(0, 1);
            is(x.bestLorry(0), 0);
        });
    }

    private static void lorriesAsNear() {
        edge("promise 31", "of several as near the one with most meals, of several such the lowest number", () -> {
            is(lorriesWith(1, 1).bestLorry(0), 0);
            is(lorriesWith(1, 2).bestLorry(0), 1);
            is(lorriesWith(2, 1).bestLorry(0), 0);
        });
        edge("promise 31", "only meals that somebody of the unit eats count", () -> {
            UnitKitchens x = lorriesWith(1, 2);
            cookAll(x, 0, 1, 2);
            x.load(0, 0, 1, 2);
            is(x.bestLorry(0), 0);
            x.addUnit(1, 5, 5, 500, 30);
            is(x.bestLorry(1), 1);
        });
        edge("promise 31", "a rest of 1 minute and a drive of 1 minute are as near", () -> {
            UnitKitchens x = lorriesWith(1, 2);
            x.move(0, 2);
            x.drive(0, 2);
            is(x.bestLorry(0), 1);
            x.unload(1, 0);
            x.load(1, 0, 0, 1);
            is(x.bestLorry(0), 0);
        });
    }

    // ---- promise 32

    private static void enoughGrace() {
        edge("promise 32", "minutes are 1 to 200", () -> {
            UnitKitchens x = places();
            x.addUnit(0, 5, 2, 180, 600);
            is(x.enoughGrace(1), 0);
            is(x.enoughGrace(200), 20);
            refusedOutside(ARGUMENT, Edges::busy, UnitKitchens::enoughGrace, 1, 200);
        });
        edge("promise 32", "the least grace 0, and 1 from a minute more on", () -> {
            UnitKitchens x = places();
            x.addUnit(0, 5, 2, 7, 600);
            is(x.enoughGrace(6), 0);
            is(x.enoughGrace(7), 0);
            is(x.enoughGrace(8), 1);
            is(x.enoughGrace(9), 2);
        });
        edge("promise 32", "the greatest grace 120, and NONE from a minute more on", () -> {
            UnitKitchens x = places();
            x.addUnit(0, 5, 2, 7, 600);
            is(x.enoughGrace(127), 120);
            is(x.enoughGrace(128), NONE);
            is(x.enoughGrace(200), NONE);
        });
        edge("promise 32", "meals that are owed for 120 minutes already", () -> {
            UnitKitchens x = places();
            x.addUnit(0, 5, 2, 1, 600);
            x.pass(120);
            is(x.enoughGrace(1), 120);
            is(x.enoughGrace(2), NONE);
            x.pass(1);
            is(x.enoughGrace(1), NONE);
        });
        edge("promise 32", "setting 1 as it is now does not matter, and is not changed", () -> {
            for (int grace : new int[] {0, 15, 120}) {
                UnitKitchens x = places();
                x.addUnit(0, 5, 2, 1, 600);
                x.set(1, grace);
                is(x.enoughGrace(41), 40);
                is(x.setting(1), grace);
            }
            onlyTells(Edges::busy, film -> film.enoughGrace(200));
        });
        edge("promise 32", "the grace that it tells is enough, and one less is not", () -> {
            UnitKitchens x = busy();
            int grace = x.enoughGrace(50);
            is(grace > 0 && grace <= 120 ? 1 : 0, 1);
            x.set(1, grace);
            is(x.ifPassed(50, 2), 0);
            x.set(1, grace - 1);
            is(x.ifPassed(50, 2) > 0 ? 1 : 0, 1);
        });
        edge("promise 32", "of several units the longest wait, in the minute before meals come too", () -> {
            UnitKitchens x = kit();
            x.addUnit(0, 5, 2, 1, 600);
            x.addUnit(1, 5, 2, 30, 600);
            x.pass(20);
            x.cook(0, 0, 20);
            // the meals come in the next minute: the first unit waits 20 minutes by then, but is served in it
            is(x.enoughGrace(20), 10);
            x.undo();
            is(x.enoughGrace(20), 39);
        });
    }

    private static void enoughGraceWithoutGrowth() {
        edge("promise 32", "0 in an empty film, and by setting 2 at 0", () -> {
            is(new UnitKitchens().enoughGrace(200), 0);
            UnitKitchens x = places();
            x.addUnit(0, 5, 2, 1, 600);
            x.set(2, 0);
            is(x.enoughGrace(200), 0);
            x.set(2, 1);
            is(x.enoughGrace(200), NONE);
        });
        edge("promise 32", "a unit that has wrapped needs none, one that has joined gives its minute away", () -> {
            UnitKitchens x = places();
            x.addUnit(0, 5, 2, 1, 600);
            x.pass(50);
            is(x.enoughGrace(1), 50);
            x.wrap(0);
            is(x.enoughGrace(200), 0);
            UnitKitchens y = places();
            y.addUnit(0, 5, 2, 1, 600);
            y.addUnit(0, 5, 2, 600, 600);
            y.pass(50);
            y.join(0, 1);
            is(y.enoughGrace(1), 50);
            y.wrap(1);
            is(y.enoughGrace(200), 0);
        });
        edge("promise 32", "calls that a unit would have had after it has wrapped or joined need none", () -> {
            UnitKitchens x = places();
            x.addUnit(0, 5, 2, 1, 30);
            x.addUnit(0, 5, 2, 10, 30);
            x.addUnit(0, 5, 2, 600, 600);
            x.wrap(0);
            x.join(1, 2);
            is(x.enoughGrace(200), 0);
            is(x.ifPassed(200, 2), 0);
        });
        edge("promise 32", "a penalty that is at its greatest does not grow, one a little below it does", () -> {
            UnitKitchens x = places();
            x.set(1, 0);
            x.set(2, 20);
            x.addUnit(0, 300, 0, 1, 30);
            passAll(x, 1001);
            int minutes = 0;
            while (x.unit(0, 10) < 100000000 && minutes < 100) {
                is(x.enoughGrace(1), NONE);
                x.pass(1);
                minutes++;
            }
            is(x.unit(0, 10), 100000000);
            is(x.enoughGrace(1), 0);
            is(x.enoughGrace(200), 0);
        });
    }

    // ---- promises 33 and 34

    private static void isShare(UnitKitchens x, double due) {
        is(Double.doubleToRawLongBits(x.servedShare()), Double.doubleToRawLongBits(due));
    }

    private static void servedShare() {
        edge("promise 33", "0.0 if none came to be owed, with a unit too", () -> {
            isShare(new UnitKitchens(), 0.0);
            UnitKitchens x = places();
            x.addUnit(0, 5, 2, 2, 600);
            x.pass(1);
            isShare(x, 0.0);
        });
        edge("promise 33", "0.0 if none was served, 1.0 if all were", () -> {
            UnitKitchens x = kit();
            x.addUnit(0, 5, 2, 1, 600);
            x.pass(1);
            isShare(x, 0.0);
            x.cook(0, 0, 5);
            x.pass(1);
            isShare(x, 1.0);
        });
        edge("promise 33", "as a double: no whole share, and one that no double is just equal to", () -> {
            UnitKitchens x = kit();
            x.addUnit(0, 3, 0, 1, 600);
            x.cook(0, 0, 1);
            x.pass(1);
            isShare(x, 1.0 / 3.0);
            x.cook(0, 0, 1);
            x.pass(1);
            isShare(x, 2.0 / 3.0);
        });
        edge("promise 33", "meals that were cancelled came to be owed too", () -> {
            UnitKitchens x = kit();
            x.addUnit(0, 4, 0, 1, 600);
            x.cook(0, 0, 1);
            x.pass(1);
            x.wrap(0);
            isShare(x, 0.25);
        });
        edge("promise 33", "nothing is changed", () -> onlyTells(Edges::busy, film -> (long) film.servedShare()));
    }

    /** The hash of the document's list, in whole numbers without an end, cut to 64 bits only at last. */
    private static long hashed(UnitKitchens x, String buffer) {
        List<Long> values = new ArrayList<>(counts(x));
        for (int setting = 0; setting < 6; setting++) {
            values.add((long) x.setting(setting));
        }
        for (int p = 0; p < x.count(0); p++) {
            values.addAll(place(x, p));
        }
        for (int u = 0; u < x.count(3); u++) {
            values.addAll(unit(x, u));
            values.add((long) x.bestLorry(u));
        }
        for (int k = 0; k < x.count(1); k++) {
            values.addAll(kitchen(x, k));
            for (int dish = 0; dish < 3; dish++) {
                values.add((long) x.canCook(k, dish));
            }
        }
        for (int l = 0; l < x.count(2); l++) {
            values.addAll(lorry(x, l));
        }
        for (int what = 0; what < 4; what++) {
            values.add((long) x.ifPassed(30, what));
        }
        values.add((long) x.callsIn(120, 0));
        values.add((long) x.callsIn(120, 1));
        values.add((long) x.enoughGrace(20));
        values.add(Double.doubleToLongBits(x.servedShare()));
        values.add((long) buffer.length());
        for (int i = 0; i < buffer.length(); i++) {
            values.add((long) buffer.charAt(i));
        }
        BigInteger hash = BigInteger.valueOf(2389);
        for (long value : values) {
            hash = hash.multiply(BigInteger.valueOf(31)).add(BigInteger.valueOf(value));
        }
        return hash.longValue();
    }

    private static void digest() {
        edge("promise 34", "an empty film, by hand", () -> {
            BigInteger hash = BigInteger.valueOf(2389);
            int[] values = {0, 0, 0, 0, 0, 0, 0, 0, 0, 0, 0, 0, 0, 0, 0, 0, 0, 10, 15, 1, 40, 5, 120,
                0, 0, 0, 0, 0, 0, 0, 0, 0};
            for (int value : values) {
                hash = hash.multiply(BigInteger.valueOf(31)).add(BigInteger.valueOf(value));
            }
            is(new UnitKitchens().digest(), hash.longValue());
        });
        edge("promise 34", "long arithmetic that overflows: films of all sizes", () -> {
            is(places().digest(), hashed(places(), ""));
            is(kit().digest(), hashed(kit(), ""));
            is(busy().digest(), hashed(busy(), "0:5g"));
            is(full().digest(), hashed(full(), ""));
        });
        edge("promise 34", "with 30 minutes, with 120 minutes, with 20 minutes: just those", () -> {
            for (int call : new int[] {10, 11, 20, 21, 30, 31, 120, 121}) {
                UnitKitchens x = places();
                x.addUnit(0, 5, 2, call, 600);
                is(x.digest(), hashed(x, ""));
            }
        });
        edge("promise 34", "the bits of the share: 0.0, 1.0, and shares between them", () -> {
            for (int served = 0; served <= 7; served++) {
                UnitKitchens x = kit();
                x.addUnit(0, 7, 0, 1, 30);
                x.pass(1);
                for (int i = 0; i < served; i++) {
                    x.cook(0, 0, 1);
                    x.pass(1);
                }
                isShare(x, served / 7.0);
                is(x.digest(), hashed(x, ""));
            }
        });
        edge("promise 34", "the bits of a share that is a power of 2: 1/2, 1/4, 1/8", () -> {
            for (int many = 2; many <= 8; many *= 2) {
                UnitKitchens x = kit();
                x.addUnit(0, many, 0, 1, 600);
                x.cook(0, 0, 1);
                x.pass(1);
                isShare(x, 1.0 / many);
                is(x.digest(), hashed(x, ""));
            }
        });
        edge("promise 34", "the bits of a very small share", () -> {
            UnitKitchens x = kit();
            for (int i = 0; i < 12; i++) {
                x.addUnit(i == 0 ? 0 : 1, 300, 0, 1, 30);
            }
            x.cook(0, 0, 1);
            passAll(x, 2000);
            isShare(x, 1.0 / (12 * 300 * 67));
            is(x.digest(), hashed(x, ""));
        });
        edge("promise 34", "it changes nothing, and answers the same again", () -> {
            UnitKitchens x = busy();
            is(x.digest(), x.digest());
            onlyTells(Edges::busy, UnitKitchens::digest);
        });
    }

    private static void digestOfTexts() {
        edge("promise 34", "the length of the buffer and each character: the least, the greatest, a full buffer", () -> {
            StringBuilder text = new StringBuilder();
            for (int i = 0; i <= 60; i++) {
                if (i == 0 || i == 1 || i == 59 || i == 60) {
                    is(typed(text.toString()).digest(), hashed(typed(text.toString()), text.toString()));
                }
                text.append((char) (i % 3 == 0 ? 33 : i % 3 == 1 ? 126 : 48 + i % 10));
            }
        });
        edge("promise 34", "what was in the buffer before it was cleared does not matter", () -> {
            UnitKitchens x = typed("0:5");
            x.clearBuffer();
            is(x.digest(), places().digest());
            x.append('1');
            is(x.digest(), typed("1").digest());
        });
    }
}
