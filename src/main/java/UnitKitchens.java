/** Kitchens that feed the units of a film on location. */
public final class UnitKitchens {
    public static final int NONE = -1;

    private static final int MOST_PLACES = 8;
    private static final int MOST_KITCHENS = 3;
    private static final int MOST_LORRIES = 4;
    private static final int MOST_UNITS = 12;
    private static final int MOST_PEOPLE = 300;
    private static final int MOST_STOCK = 999;
    private static final int MOST_TO_COOK = 300;
    private static final int MOST_TO_MOVE = 500;
    private static final int MOST_TO_PASS = 200;
    private static final int MOST_GRACE = 120;
    private static final int MOST_PENALTY = 100000000;
    private static final int MOST_CHARACTERS = 60;
    private static final int MOST_SAVED = 6;
    private static final int LAST_MINUTE = 20000;
    private static final int LATEST_CALL = 600;
    private static final int LEAST_INTERVAL = 30;
    private static final int MOST_INTERVAL = 600;

    private static final int INGREDIENTS = 3;
    private static final int GRAIN = 0;
    private static final int GREENS = 1;
    private static final int MEAT = 2;

    private static final int DISHES = 3;
    private static final int MEAT_DISH = 1;
    /** What one meal needs of each ingredient, dish after dish. */
    private static final int[] NEEDS = {1, 1, 0, 1, 0, 1, 0, 2, 0};

    private static final int SETTINGS = 6;
    private static final int DRIVE_PACE = 0;
    private static final int GRACE = 1;
    private static final int PENALTY = 2;
    private static final int KEEPS = 3;
    private static final int POT_PACE = 4;
    private static final int LORRY_ROOM = 5;
    private static final int[] LEAST_SETTING = {1, 0, 0, 5, 1, 10};
    private static final int[] MOST_SETTING = {50, 120, 20, 60, 20, 500};
    private static final int[] FIRST_SETTING = {10, 15, 1, 40, 5, 120};

    private static final int WORKS = 0;
    private static final int HAS_WRAPPED = 1;
    private static final int HAS_JOINED = 2;

    private static final int LAST_OF_PLACE = 6;
    private static final int LAST_OF_UNIT = 11;
    private static final int LAST_OF_KITCHEN = 11;
    private static final int LAST_OF_LORRY = 8;
    private static final int LAST_OF_COUNT = 16;
    private static final int LAST_OF_FORECAST = 3;

    private final Film film = new Film();
    private final Film ahead = new Film();
    private final SavedFilms saved = new SavedFilms();
    private final char[] buffer = new char[MOST_CHARACTERS];
    private final SheetReader reader = new SheetReader();
    private int length;

    public UnitKitchens() {
        length = 0;
    }

    // ---- places, kitchens, lorries, settings

    public int addPlace(int x, int y) throws IllegalArgumentException, IllegalStateException {
        requireRange(x, 0, 99);
        requireRange(y, 0, 99);
        requireState(film.placeCount < MOST_PLACES);
        saved.keep(film);
        return film.newPlace(x, y);
    }

    public int addKitchen(int place) throws IndexOutOfBoundsException, IllegalStateException {
        requireIndex(place, film.placeCount);
        requireState(film.kitchenCount < MOST_KITCHENS);
        saved.keep(film);
        return film.newKitchen(place);
    }

    public int addLorry(int place) throws IndexOutOfBoundsException, IllegalStateException {
        requireIndex(place, film.placeCount);
        requireState(film.lorryCount < MOST_LORRIES);
        saved.keep(film);
        return film.newLorry(place);
    }

    public int set(int setting, int value) throws IndexOutOfBoundsException, IllegalArgumentException {
        requireIndex(setting, SETTINGS);
        requireRange(value, LEAST_SETTING[setting], MOST_SETTING[setting]);
        saved.keep(film);
        int previous = film.settings[setting];
        film.settings[setting] = value;
        return previous;
    }

    // ---- stock, meals, drives

    public int stock(int kitchen, int what, int many)
            throws IndexOutOfBoundsException, IllegalArgumentException, IllegalStateException {
        requireIndex(kitchen, film.kitchenCount);
        requireRange(what, 0, INGREDIENTS - 1);
        requireRange(many, 1, MOST_TO_MOVE);
        int[] store = film.kitchens[kitchen].store;
        requireState(store[what] + many <= MOST_STOCK);
        saved.keep(film);
        store[what] += many;
        return store[what];
    }

    public int cook(int kitchen, int dish, int many)
            throws IndexOutOfBoundsException, IllegalArgumentException, IllegalStateException {
        requireIndex(kitchen, film.kitchenCount);
        requireRange(dish, 0, DISHES - 1);
        requireRange(many, 1, MOST_TO_COOK);
        Kitchen cooking = film.kitchens[kitchen];
        requireState(cooking.potMeals == 0 && cooking.enoughFor(dish) >= many);
        saved.keep(film);
        cooking.fillPot(dish, many);
        return dividedUp(many, film.settings[POT_PACE]);
    }

    public int load(int lorry, int kitchen, int dish, int many)
            throws IndexOutOfBoundsException, IllegalArgumentException, IllegalStateException {
        requireIndex(lorry, film.lorryCount);
        requireIndex(kitchen, film.kitchenCount);
        requireRange(dish, 0, DISHES - 1);
        requireRange(many, 1, MOST_TO_MOVE);
        Lorry to = film.lorries[lorry];
        Kitchen from = film.kitchens[kitchen];
        requireState(to.place == from.place);
        requireState(from.meals.ofDish[dish] >= many);
        requireState(to.meals.inAll() + many <= film.settings[LORRY_ROOM]);
        saved.keep(film);
        from.meals.carryFirst(dish, many, film.minute, to.meals);
        return to.meals.inAll();
    }

    public int unload(int lorry, int kitchen) throws IndexOutOfBoundsException, IllegalStateException {
        requireIndex(lorry, film.lorryCount);
        requireIndex(kitchen, film.kitchenCount);
        Lorry from = film.lorries[lorry];
        Kitchen to = film.kitchens[kitchen];
        requireState(from.place == to.place);
        saved.keep(film);
        int many = from.meals.inAll();
        for (int dish = 0; dish < DISHES; dish++) {
            from.meals.carryFirst(dish, many, film.minute, to.meals);
        }
        return many;
    }

    public int drive(int lorry, int place) throws IndexOutOfBoundsException, IllegalStateException {
        requireIndex(lorry, film.lorryCount);
        requireIndex(place, film.placeCount);
        Lorry driving = film.lorries[lorry];
        requireState(driving.place != NONE && driving.place != place);
        saved.keep(film);
        driving.left = film.driveMinutes(driving.place, place);
        driving.place = NONE;
        driving.target = place;
        return driving.left;
    }

    // ---- units

    public int addUnit(int place, int people, int greens, int call, int interval)
            throws IndexOutOfBoundsException, IllegalArgumentException, IllegalStateException {
        requireIndex(place, film.placeCount);
        requireRange(people, 1, MOST_PEOPLE);
        requireRange(greens, 0, people);
        requireRange(call, 1, LATEST_CALL);
        requireRange(interval, LEAST_INTERVAL, MOST_INTERVAL);
        requireState(film.unitCount < MOST_UNITS);
        saved.keep(film);
        return film.newUnit(place, people, greens, film.minute + call, interval);
    }

    public int split(int unit, int people, int greens)
            throws IndexOutOfBoundsException, IllegalArgumentException, IllegalStateException {
        requireIndex(unit, film.unitCount);
        requireRange(people, 1, MOST_PEOPLE - 1);
        requireRange(greens, 0, people);
        Unit from = film.units[unit];
        requireState(from.state == WORKS && film.unitCount < MOST_UNITS);
        requireState(from.people > people && from.greens >= greens);
        requireState(from.people - from.greens >= people - greens);
        saved.keep(film);
        from.people -= people;
        from.greens -= greens;
        return film.newUnit(from.place, people, greens, from.nextCall, from.interval);
    }

    public int join(int unit, int other)
            throws IndexOutOfBoundsException, IllegalArgumentException, IllegalStateException {
        requireIndex(unit, film.unitCount);
        requireIndex(other, film.unitCount);
        if (unit == other) {
            throw new IllegalArgumentException("a unit cannot join itself");
        }
        Unit from = film.units[unit];
        Unit to = film.units[other];
        requireState(from.state == WORKS && to.state == WORKS);
        requireState(from.place == to.place && from.people + to.people <= MOST_PEOPLE);
        saved.keep(film);
        to.takeIn(from);
        from.leave(HAS_JOINED);
        return to.people;
    }

    public int move(int unit, int place) throws IndexOutOfBoundsException, IllegalStateException {
        requireIndex(unit, film.unitCount);
        requireIndex(place, film.placeCount);
        Unit moving = film.units[unit];
        requireState(moving.state == WORKS);
        saved.keep(film);
        int previous = moving.place;
        moving.place = place;
        return previous;
    }

    public int wrap(int unit) throws IndexOutOfBoundsException, IllegalStateException {
        requireIndex(unit, film.unitCount);
        Unit wrapping = film.units[unit];
        requireState(wrapping.state == WORKS);
        saved.keep(film);
        wrapping.cancelled = wrapping.owed();
        wrapping.leave(HAS_WRAPPED);
        return wrapping.cancelled;
    }

    public int pass(int minutes) throws IllegalArgumentException, IllegalStateException {
        requireRange(minutes, 1, MOST_TO_PASS);
        requireState(film.minute + minutes <= LAST_MINUTE);
        saved.keep(film);
        int servedBefore = film.served();
        for (int i = 0; i < minutes; i++) {
            film.passMinute();
        }
        return film.served() - servedBefore;
    }

    // ---- texts

    public int append(int code) throws IllegalArgumentException, IllegalStateException {
        requireRange(code, 33, 126);
        requireState(length < MOST_CHARACTERS);
        buffer[length] = (char) code;
        length++;
        return length;
    }

    public int clearBuffer() {
        int had = length;
        length = 0;
        return had;
    }

    public int firstError() {
        reader.begin();
        for (int i = 0; i < length; i++) {
            if (!reader.reads(buffer[i])) {
                return i;
            }
        }
        return length;
    }

    public int addSheet() throws IllegalArgumentException {
        if (firstError() < length || !reader.mayEnd()) {
            throw new IllegalArgumentException("the buffer is not a complete call sheet");
        }
        saved.keep(film);
        int added = addUnitsOfSheet();
        length = 0;
        return added;
    }

    public int undo() throws IllegalStateException {
        requireState(saved.many > 0);
        saved.restore(film);
        return saved.many;
    }

    // ---- what there is

    public int place(int place, int what) throws IndexOutOfBoundsException, IllegalArgumentException {
        requireIndex(place, film.placeCount);
        requireRange(what, 0, LAST_OF_PLACE);
        switch (what) {
            case 0:
                return film.placeX[place];
            case 1:
                return film.placeY[place];
            case 2:
                return film.unitsAt(place);
            case 3:
                return film.kitchensAt(place);
            case 4:
                return film.lorriesAt(place);
            case 5:
                return film.mealsAt(place);
            default:
                return film.owedAt(place);
        }
    }

    public int unit(int unit, int what) throws IndexOutOfBoundsException, IllegalArgumentException {
        requireIndex(unit, film.unitCount);
        requireRange(what, 0, LAST_OF_UNIT);
        return film.units[unit].property(what);
    }

    public int kitchen(int kitchen, int what) throws IndexOutOfBoundsException, IllegalArgumentException {
        requireIndex(kitchen, film.kitchenCount);
        requireRange(what, 0, LAST_OF_KITCHEN);
        return film.kitchens[kitchen].property(what, film.minute);
    }

    public int lorry(int lorry, int what) throws IndexOutOfBoundsException, IllegalArgumentException {
        requireIndex(lorry, film.lorryCount);
        requireRange(what, 0, LAST_OF_LORRY);
        return film.lorries[lorry].property(what, film.minute);
    }

    public int count(int what) throws IllegalArgumentException {
        requireRange(what, 0, LAST_OF_COUNT);
        switch (what) {
            case 0:
                return film.placeCount;
            case 1:
                return film.kitchenCount;
            case 2:
                return film.lorryCount;
            case 3:
                return film.unitCount;
            case 4:
                return film.workingUnits();
            case 5:
                return film.people();
            case 6:
                return film.minute;
            case 7:
                return film.cooked();
            case 8:
                return film.served();
            case 9:
                return film.thrown();
            case 10:
                return film.mealsInKitchens();
            case 11:
                return film.mealsInLorries();
            case 12:
                return film.cameToBeOwed;
            case 13:
                return film.owed();
            case 14:
                return film.cancelled();
            case 15:
                return film.penalties();
            default:
                return saved.many;
        }
    }

    public int setting(int setting) throws IndexOutOfBoundsException {
        requireIndex(setting, SETTINGS);
        return film.settings[setting];
    }

    // ---- what would be; nothing is changed, and the limit of the minute does not matter

    public int ifPassed(int minutes, int what) throws IllegalArgumentException {
        requireRange(minutes, 1, MOST_TO_PASS);
        requireRange(what, 0, LAST_OF_FORECAST);
        lookAhead(minutes);
        return forecast(what);
    }

    public int callsIn(int minutes, int what) throws IllegalArgumentException {
        requireRange(minutes, 1, 1000);
        requireRange(what, 0, 1);
        int end = film.minute + minutes;
        int meals = 0;
        for (int u = 0; u < film.unitCount; u++) {
            Unit unit = film.units[u];
            int eaters = what == 0 ? unit.greens : unit.people - unit.greens;
            meals += eaters * unit.callsUntil(end);
        }
        return meals;
    }

    public int canCook(int kitchen, int dish) throws IndexOutOfBoundsException, IllegalArgumentException {
        requireIndex(kitchen, film.kitchenCount);
        requireRange(dish, 0, DISHES - 1);
        return film.kitchens[kitchen].enoughFor(dish);
    }

    public int bestLorry(int unit) throws IndexOutOfBoundsException {
        requireIndex(unit, film.unitCount);
        Unit waiting = film.units[unit];
        return waiting.state == WORKS ? film.lorryFor(waiting) : NONE;
    }

    public int enoughGrace(int minutes) throws IllegalArgumentException {
        requireRange(minutes, 1, MOST_TO_PASS);
        return leastGrace(minutes);
    }

    public double servedShare() {
        int came = film.cameToBeOwed;
        return came == 0 ? 0.0 : (double) film.served() / (double) came;
    }

    public long digest() {
        long hash = 2389;
        for (int what = 0; what <= LAST_OF_COUNT; what++) {
            hash = 31 * hash + count(what);
        }
        for (int setting = 0; setting < SETTINGS; setting++) {
            hash = 31 * hash + film.settings[setting];
        }
        hash = hashPlaces(hash);
        hash = hashUnits(hash);
        hash = hashKitchens(hash);
        hash = hashLorries(hash);
        lookAhead(30);
        for (int what = 0; what <= LAST_OF_FORECAST; what++) {
            hash = 31 * hash + forecast(what);
        }
        hash = 31 * hash + callsIn(120, 0);
        hash = 31 * hash + callsIn(120, 1);
        hash = 31 * hash + leastGrace(20);
        hash = 31 * hash + bitsOfShare(servedShare());
        hash = 31 * hash + length;
        for (int i = 0; i < length; i++) {
            hash = 31 * hash + buffer[i];
        }
        return hash;
    }

    // ---- parts of the methods above

    private static void requireIndex(int index, int size) {
        if (index < 0 || index >= size) {
            throw new IndexOutOfBoundsException("there is no such number");
        }
    }

    private static void requireRange(int value, int least, int most) {
        if (value < least || value > most) {
            throw new IllegalArgumentException("an argument is out of range");
        }
    }

    private static void requireState(boolean holds) {
        if (!holds) {
            throw new IllegalStateException("the film does not allow it now");
        }
    }

    private static int dividedUp(int number, int divisor) {
        return divisor < 1 ? 0 : (number + divisor - 1) / divisor;
    }

    /** Reads the buffer, which is known to be a complete call sheet, a second time. */
    private int addUnitsOfSheet() {
        int added = 0;
        reader.begin();
        for (int i = 0; i <= length; i++) {
            if (i == length || buffer[i] == ',') {
                if (!mayAddReadUnit()) {
                    return added;
                }
                film.newUnit(reader.place, reader.people(), reader.greens(),
                        film.minute + reader.call(), reader.interval());
                added++;
            }
            if (i < length) {
                reader.reads(buffer[i]);
            }
        }
        return added;
    }

    /** The other conditions of addUnit() are matters of syntax. */
    private boolean mayAddReadUnit() {
        return reader.place < film.placeCount && reader.greens() <= reader.people()
                && film.unitCount < MOST_UNITS;
    }

    private void lookAhead(int minutes) {
        ahead.copyFrom(film);
        for (int i = 0; i < minutes; i++) {
            ahead.passMinute();
        }
    }

    /** What lookAhead() has changed. */
    private int forecast(int what) {
        switch (what) {
            case 0:
                return ahead.served() - film.served();
            case 1:
                return ahead.thrown() - film.thrown();
            case 2:
                return ahead.penalties() - film.penalties();
            default:
                return ahead.owed();
        }
    }

    /**
     * A grace is enough if it is the longest time for which meals would be owed to a unit whose penalty can still
     * grow, as neither what is owed nor what is served depends on the grace.
     */
    private int leastGrace(int minutes) {
        int longest = 0;
        ahead.copyFrom(film);
        for (int i = 0; i < minutes && film.settings[PENALTY] > 0; i++) {
            ahead.passMinute();
            for (int u = 0; u < film.unitCount; u++) {
                // ahead's penalties have grown by the present grace, the film's have not
                if (film.units[u].penalty < MOST_PENALTY) {
                    longest = Math.max(longest, ahead.units[u].waiting(ahead.minute));
                }
            }
        }
        return longest <= MOST_GRACE ? longest : NONE;
    }

    private long hashPlaces(long start) {
        long hash = start;
        for (int place = 0; place < film.placeCount; place++) {
            for (int what = 0; what <= LAST_OF_PLACE; what++) {
                hash = 31 * hash + place(place, what);
            }
        }
        return hash;
    }

    private long hashUnits(long start) {
        long hash = start;
        for (int unit = 0; unit < film.unitCount; unit++) {
            for (int what = 0; what <= LAST_OF_UNIT; what++) {
                hash = 31 * hash + unit(unit, what);
            }
            hash = 31 * hash + bestLorry(unit);
        }
        return hash;
    }

    private long hashKitchens(long start) {
        long hash = start;
        for (int kitchen = 0; kitchen < film.kitchenCount; kitchen++) {
            for (int what = 0; what <= LAST_OF_KITCHEN; what++) {
                hash = 31 * hash + kitchen(kitchen, what);
            }
            for (int dish = 0; dish < DISHES; dish++) {
                hash = 31 * hash + canCook(kitchen, dish);
            }
        }
        return hash;
    }

    private long hashLorries(long start) {
        long hash = start;
        for (int lorry = 0; lorry < film.lorryCount; lorry++) {
            for (int what = 0; what <= LAST_OF_LORRY; what++) {
                hash = 31 * hash + lorry(lorry, what);
            }
        }
        return hash;
    }

    /** The bits of a double from 0 to 1: its power of 2, and the 52 digits behind the leading 1. */
    private static long bitsOfShare(double share) {
        if (share <= 0.0) {
            return 0L;
        }
        double leading = share;
        long power = 1023L;
        for (int i = 0; i < 64 && leading < 1.0; i++) {
            leading = leading * 2.0;
            power--;
        }
        long digits = (long) ((leading - 1.0) * (double) (1L << 52));
        return (power << 52) | digits;
    }

    /** All of a film that undo() restores. */
    private static final class Film {
        int minute;
        int cameToBeOwed;
        final int[] settings = FIRST_SETTING.clone();
        int placeCount;
        final int[] placeX = new int[MOST_PLACES];
        final int[] placeY = new int[MOST_PLACES];
        int kitchenCount;
        final Kitchen[] kitchens = new Kitchen[MOST_KITCHENS];
        int lorryCount;
        final Lorry[] lorries = new Lorry[MOST_LORRIES];
        int unitCount;
        final Unit[] units = new Unit[MOST_UNITS];

        Film() {
            for (int k = 0; k < MOST_KITCHENS; k++) {
                kitchens[k] = new Kitchen();
            }
            for (int l = 0; l < MOST_LORRIES; l++) {
                lorries[l] = new Lorry();
            }
            for (int u = 0; u < MOST_UNITS; u++) {
                units[u] = new Unit();
            }
        }

        /** Copies what is not in use too, so that it stays as it was made. */
        void copyFrom(Film from) {
            minute = from.minute;
            cameToBeOwed = from.cameToBeOwed;
            placeCount = from.placeCount;
            kitchenCount = from.kitchenCount;
            lorryCount = from.lorryCount;
            unitCount = from.unitCount;
            System.arraycopy(from.settings, 0, settings, 0, SETTINGS);
            System.arraycopy(from.placeX, 0, placeX, 0, MOST_PLACES);
            System.arraycopy(from.placeY, 0, placeY, 0, MOST_PLACES);
            for (int k = 0; k < MOST_KITCHENS; k++) {
                kitchens[k].copyFrom(from.kitchens[k]);
            }
            for (int l = 0; l < MOST_LORRIES; l++) {
                lorries[l].copyFrom(from.lorries[l]);
            }
            for (int u = 0; u < MOST_UNITS; u++) {
                units[u].copyFrom(from.units[u]);
            }
        }

        int newPlace(int x, int y) {
            if (placeCount >= MOST_PLACES) {
                return NONE;
            }
            placeX[placeCount] = x;
            placeY[placeCount] = y;
            placeCount++;
            return placeCount - 1;
        }

        int newKitchen(int place) {
            if (kitchenCount >= MOST_KITCHENS) {
                return NONE;
            }
            kitchens[kitchenCount].place = place;
            kitchenCount++;
            return kitchenCount - 1;
        }

        int newLorry(int place) {
            if (lorryCount >= MOST_LORRIES) {
                return NONE;
            }
            lorries[lorryCount].place = place;
            lorryCount++;
            return lorryCount - 1;
        }

        int newUnit(int place, int people, int greens, int nextCall, int interval) {
            if (unitCount >= MOST_UNITS) {
                return NONE;
            }
            Unit unit = units[unitCount];
            unit.place = place;
            unit.people = people;
            unit.greens = greens;
            unit.nextCall = nextCall;
            unit.interval = interval;
            unitCount++;
            return unitCount - 1;
        }

        void passMinute() {
            minute++;
            driveLorries();
            cookPots();
            throwOldMeals();
            callUnits();
            serveUnits();
            punish();
        }

        void driveLorries() {
            for (int l = 0; l < lorryCount; l++) {
                lorries[l].driveMinute();
            }
        }

        void cookPots() {
            for (int k = 0; k < kitchenCount; k++) {
                kitchens[k].cookMinute(minute, settings[POT_PACE]);
            }
        }

        void throwOldMeals() {
            for (int k = 0; k < kitchenCount; k++) {
                kitchens[k].thrown += kitchens[k].meals.throwOlder(settings[KEEPS], minute);
            }
            for (int l = 0; l < lorryCount; l++) {
                lorries[l].thrown += lorries[l].meals.throwOlder(settings[KEEPS], minute);
            }
        }

        void callUnits() {
            for (int u = 0; u < unitCount; u++) {
                Unit unit = units[u];
                if (unit.state == WORKS && unit.nextCall == minute) {
                    cameToBeOwed += unit.people;
                    unit.callToEat(minute);
                }
            }
        }

        void serveUnits() {
            for (int u = 0; u < unitCount; u++) {
                Unit unit = units[u];
                if (unit.owed() > 0) {
                    unit.serveGreens(takeMeals(unit.place, false, unit.owedGreens));
                    unit.serveOthers(takeMeals(unit.place, true, unit.owedOthers));
                    unit.serveOthers(takeMeals(unit.place, false, unit.owedOthers));
                }
            }
        }

        /** Takes meals of the meat dish, or of the two others, out of all that stands at a place. */
        int takeMeals(int place, boolean meat, int wanted) {
            int left = wanted;
            for (int l = 0; l < lorryCount; l++) {
                if (lorries[l].place == place) {
                    int taken = lorries[l].meals.takeFirst(meat, left, minute);
                    lorries[l].served += taken;
                    left -= taken;
                }
            }
            for (int k = 0; k < kitchenCount; k++) {
                if (kitchens[k].place == place) {
                    left -= kitchens[k].meals.takeFirst(meat, left, minute);
                }
            }
            return wanted - left;
        }

        void punish() {
            for (int u = 0; u < unitCount; u++) {
                Unit unit = units[u];
                if (unit.waiting(minute) > settings[GRACE]) {
                    unit.penalty = Math.min(MOST_PENALTY, unit.penalty + unit.owed() * settings[PENALTY]);
                }
            }
        }

        boolean isPlace(int place) {
            return place >= 0 && place < placeCount && place < MOST_PLACES;
        }

        int driveMinutes(int from, int to) {
            if (from == to || !isPlace(from) || !isPlace(to)) {
                return 0;
            }
            int distance = Math.abs(placeX[from] - placeX[to]) + Math.abs(placeY[from] - placeY[to]);
            return Math.max(1, dividedUp(distance * settings[DRIVE_PACE], 10));
        }

        int minutesTo(int place, Lorry lorry) {
            int from = lorry.place == NONE ? lorry.target : lorry.place;
            return lorry.left + driveMinutes(from, place);
        }

        int lorryFor(Unit unit) {
            int best = NONE;
            int bestMinutes = 0;
            int bestMeals = 0;
            for (int l = 0; l < lorryCount; l++) {
                int meals = lorries[l].meals.eatenBy(unit);
                int minutes = minutesTo(unit.place, lorries[l]);
                boolean better = best == NONE || minutes < bestMinutes
                        || minutes == bestMinutes && meals > bestMeals;
                if (meals > 0 && better) {
                    best = l;
                    bestMinutes = minutes;
                    bestMeals = meals;
                }
            }
            return best;
        }

        int unitsAt(int place) {
            int many = 0;
            for (int u = 0; u < unitCount; u++) {
                if (units[u].state == WORKS && units[u].place == place) {
                    many++;
                }
            }
            return many;
        }

        int kitchensAt(int place) {
            int many = 0;
            for (int k = 0; k < kitchenCount; k++) {
                if (kitchens[k].place == place) {
                    many++;
                }
            }
            return many;
        }

        int lorriesAt(int place) {
            int many = 0;
            for (int l = 0; l < lorryCount; l++) {
                if (lorries[l].place == place) {
                    many++;
                }
            }
            return many;
        }

        int mealsAt(int place) {
            int many = 0;
            for (int k = 0; k < kitchenCount; k++) {
                if (kitchens[k].place == place) {
                    many += kitchens[k].meals.inAll();
                }
            }
            for (int l = 0; l < lorryCount; l++) {
                if (lorries[l].place == place) {
                    many += lorries[l].meals.inAll();
                }
            }
            return many;
        }

        int owedAt(int place) {
            int many = 0;
            for (int u = 0; u < unitCount; u++) {
                if (units[u].place == place) {
                    many += units[u].owed();
                }
            }
            return many;
        }

        int workingUnits() {
            int many = 0;
            for (int u = 0; u < unitCount; u++) {
                if (units[u].state == WORKS) {
                    many++;
                }
            }
            return many;
        }

        int people() {
            int many = 0;
            for (int u = 0; u < unitCount; u++) {
                many += units[u].people;
            }
            return many;
        }

        int cooked() {
            int many = 0;
            for (int k = 0; k < kitchenCount; k++) {
                many += kitchens[k].cooked;
            }
            return many;
        }

        int served() {
            int many = 0;
            for (int u = 0; u < unitCount; u++) {
                many += units[u].served;
            }
            return many;
        }

        int thrown() {
            int many = 0;
            for (int k = 0; k < kitchenCount; k++) {
                many += kitchens[k].thrown;
            }
            for (int l = 0; l < lorryCount; l++) {
                many += lorries[l].thrown;
            }
            return many;
        }

        int mealsInKitchens() {
            int many = 0;
            for (int k = 0; k < kitchenCount; k++) {
                many += kitchens[k].meals.inAll();
            }
            return many;
        }

        int mealsInLorries() {
            int many = 0;
            for (int l = 0; l < lorryCount; l++) {
                many += lorries[l].meals.inAll();
            }
            return many;
        }

        int owed() {
            int many = 0;
            for (int u = 0; u < unitCount; u++) {
                many += units[u].owed();
            }
            return many;
        }

        int cancelled() {
            int many = 0;
            for (int u = 0; u < unitCount; u++) {
                many += units[u].cancelled;
            }
            return many;
        }

        int penalties() {
            int sum = 0;
            for (int u = 0; u < unitCount; u++) {
                sum += units[u].penalty;
            }
            return sum;
        }
    }

    /** A kitchen. */
    private static final class Kitchen {
        int place;
        final int[] store = new int[INGREDIENTS];
        int potDish = NONE;
        int potMeals;
        final Meals meals = new Meals();
        int cooked;
        int thrown;

        void copyFrom(Kitchen from) {
            place = from.place;
            System.arraycopy(from.store, 0, store, 0, INGREDIENTS);
            potDish = from.potDish;
            potMeals = from.potMeals;
            meals.copyFrom(from.meals);
            cooked = from.cooked;
            thrown = from.thrown;
        }

        int enoughFor(int dish) {
            int many = MOST_TO_COOK;
            for (int i = 0; i < INGREDIENTS; i++) {
                int need = NEEDS[dish * INGREDIENTS + i];
                if (need > 0) {
                    many = Math.min(many, store[i] / need);
                }
            }
            return many;
        }

        void fillPot(int dish, int many) {
            for (int i = 0; i < INGREDIENTS; i++) {
                store[i] -= many * NEEDS[dish * INGREDIENTS + i];
            }
            potDish = dish;
            potMeals = many;
        }

        void cookMinute(int minute, int pace) {
            if (potMeals > 0) {
                int many = Math.min(pace, potMeals);
                meals.put(potDish, minute, many);
                cooked += many;
                potMeals -= many;
                if (potMeals == 0) {
                    potDish = NONE;
                }
            }
        }

        int property(int what, int now) {
            switch (what) {
                case 0:
                    return place;
                case 1:
                    return store[GRAIN];
                case 2:
                    return store[GREENS];
                case 3:
                    return store[MEAT];
                case 4:
                    return potDish;
                case 5:
                    return potMeals;
                case 6:
                case 7:
                case 8:
                    return meals.ofDish[what - 6];
                case 9:
                    return meals.oldest(now);
                case 10:
                    return cooked;
                default:
                    return thrown;
            }
        }
    }

    /** A lorry: one that drives has no place, one that stands no target. */
    private static final class Lorry {
        int place = NONE;
        int target = NONE;
        int left;
        final Meals meals = new Meals();
        int served;
        int thrown;

        void copyFrom(Lorry from) {
            place = from.place;
            target = from.target;
            left = from.left;
            meals.copyFrom(from.meals);
            served = from.served;
            thrown = from.thrown;
        }

        void driveMinute() {
            if (target != NONE) {
                left--;
                if (left < 1) {
                    place = target;
                    target = NONE;
                    left = 0;
                }
            }
        }

        int property(int what, int now) {
            switch (what) {
                case 0:
                    return place;
                case 1:
                    return target;
                case 2:
                    return left;
                case 3:
                case 4:
                case 5:
                    return meals.ofDish[what - 3];
                case 6:
                    return meals.oldest(now);
                case 7:
                    return served;
                default:
                    return thrown;
            }
        }
    }

    /** A unit: one that no longer works has no people, and nothing is owed to it. */
    private static final class Unit {
        int state = WORKS;
        int place;
        int people;
        int greens;
        int nextCall;
        int interval;
        int owedGreens;
        int owedOthers;
        int owedSince = NONE;
        int served;
        int penalty;
        int cancelled;

        void copyFrom(Unit from) {
            state = from.state;
            place = from.place;
            people = from.people;
            greens = from.greens;
            nextCall = from.nextCall;
            interval = from.interval;
            owedGreens = from.owedGreens;
            owedOthers = from.owedOthers;
            owedSince = from.owedSince;
            served = from.served;
            penalty = from.penalty;
            cancelled = from.cancelled;
        }

        int owed() {
            return owedGreens + owedOthers;
        }

        /** Since how many minutes meals are owed; NONE if none are. */
        int waiting(int now) {
            return owedSince == NONE ? NONE : now - owedSince;
        }

        void callToEat(int now) {
            if (owedSince == NONE) {
                owedSince = now;
            }
            owedGreens += greens;
            owedOthers += people - greens;
            nextCall += interval;
        }

        void serveGreens(int many) {
            owedGreens -= many;
            noteServed(many);
        }

        void serveOthers(int many) {
            owedOthers -= many;
            noteServed(many);
        }

        void noteServed(int many) {
            served += many;
            if (owed() == 0) {
                owedSince = NONE;
            }
        }

        void takeIn(Unit joining) {
            people += joining.people;
            greens += joining.greens;
            owedGreens += joining.owedGreens;
            owedOthers += joining.owedOthers;
            if (owedSince == NONE) {
                owedSince = joining.owedSince;
            } else if (joining.owedSince != NONE) {
                owedSince = Math.min(owedSince, joining.owedSince);
            }
        }

        void leave(int newState) {
            state = newState;
            people = 0;
            greens = 0;
            owedGreens = 0;
            owedOthers = 0;
            owedSince = NONE;
        }

        /** How many calls there will be until a minute, that one included. */
        int callsUntil(int end) {
            if (state != WORKS || interval < 1 || nextCall > end) {
                return 0;
            }
            return (end - nextCall) / interval + 1;
        }

        int property(int what) {
            if (state != WORKS && what >= 1 && what <= 8) {
                return NONE;
            }
            switch (what) {
                case 0:
                    return state;
                case 1:
                    return place;
                case 2:
                    return people;
                case 3:
                    return greens;
                case 4:
                    return nextCall;
                case 5:
                    return interval;
                case 6:
                    return owedGreens;
                case 7:
                    return owedOthers;
                case 8:
                    return owedSince;
                case 9:
                    return served;
                case 10:
                    return penalty;
                default:
                    return cancelled;
            }
        }
    }

    /** The meals of a kitchen or a lorry, counted by dish and by the minute in which they were cooked. */
    private static final class Meals {
        /** A power of 2 above 61, the greatest age of a meal before it is thrown away. */
        private static final int AGES = 64;

        final int[] cookedIn = new int[DISHES * AGES];
        final int[] ofDish = new int[DISHES];

        void copyFrom(Meals from) {
            System.arraycopy(from.cookedIn, 0, cookedIn, 0, DISHES * AGES);
            System.arraycopy(from.ofDish, 0, ofDish, 0, DISHES);
        }

        /** Minutes share a slot when they are 64 apart, and so never hold meals both. */
        static int slot(int dish, int minute) {
            return dish * AGES + (minute & AGES - 1);
        }

        int inAll() {
            return ofDish[0] + ofDish[1] + ofDish[2];
        }

        /** Meals of the meat dish, or of the two others. */
        int ofKind(boolean meat) {
            return meat ? ofDish[MEAT_DISH] : inAll() - ofDish[MEAT_DISH];
        }

        int eatenBy(Unit unit) {
            return unit.people > unit.greens ? inAll() : ofKind(false);
        }

        void put(int dish, int minute, int many) {
            if (dish >= 0 && dish < DISHES) {
                cookedIn[slot(dish, minute)] += many;
                ofDish[dish] += many;
            }
        }

        int take(int dish, int minute, int atMost) {
            if (dish < 0 || dish >= DISHES) {
                return 0;
            }
            int slot = slot(dish, minute);
            int taken = Math.min(atMost, cookedIn[slot]);
            cookedIn[slot] -= taken;
            ofDish[dish] -= taken;
            return taken;
        }

        int takeFirst(boolean meat, int wanted, int now) {
            int most = Math.min(wanted, ofKind(meat));
            int taken = 0;
            for (int age = AGES - 1; age >= 0 && taken < most; age--) {
                for (int dish = 0; dish < DISHES; dish++) {
                    if ((dish == MEAT_DISH) == meat) {
                        taken += take(dish, now - age, most - taken);
                    }
                }
            }
            return taken;
        }

        void carryFirst(int dish, int many, int now, Meals to) {
            int left = many;
            for (int age = AGES - 1; age >= 0 && left > 0; age--) {
                int taken = take(dish, now - age, left);
                to.put(dish, now - age, taken);
                left -= taken;
            }
        }

        int throwOlder(int limit, int now) {
            int before = inAll();
            if (before == 0) {
                return 0;
            }
            for (int age = limit + 1; age < AGES; age++) {
                for (int dish = 0; dish < DISHES; dish++) {
                    take(dish, now - age, before);
                }
            }
            return before - inAll();
        }

        int oldest(int now) {
            if (inAll() == 0) {
                return NONE;
            }
            for (int age = AGES - 1; age >= 0; age--) {
                for (int dish = 0; dish < DISHES; dish++) {
                    if (cookedIn[slot(dish, now - age)] > 0) {
                        return now - age;
                    }
                }
            }
            return NONE;
        }
    }

    /** The saved states, in a ring. */
    private static final class SavedFilms {
        final Film[] films = new Film[MOST_SAVED];
        int next;
        int many;

        SavedFilms() {
            for (int i = 0; i < MOST_SAVED; i++) {
                films[i] = new Film();
            }
        }

        void keep(Film film) {
            films[next].copyFrom(film);
            next = next + 1 < MOST_SAVED ? next + 1 : 0;
            many = Math.min(MOST_SAVED, many + 1);
        }

        void restore(Film film) {
            next = next > 0 ? next - 1 : MOST_SAVED - 1;
            many--;
            film.copyFrom(films[next]);
        }
    }

    /** Reads a call sheet character by character, and knows the unit that it reads. */
    private static final class SheetReader {
        private static final int PEOPLE = 0;
        private static final int PEOPLE_GREENS = 1;
        private static final int CALL = 2;
        private static final int INTERVAL = 3;
        private static final int PLACE = 4;
        private static final int COLON = 5;
        private static final int NUMBERS = 4;
        private static final int[] LEAST = {1, 0, 1, 30};
        private static final int[] MOST = {300, 300, 600, 600};

        /** What the next character belongs to. */
        int part;
        int place;
        /** NONE for a number without a digit so far. */
        final int[] numbers = new int[NUMBERS];

        void begin() {
            part = PLACE;
            place = NONE;
            for (int i = 0; i < NUMBERS; i++) {
                numbers[i] = NONE;
            }
        }

        int people() {
            return numbers[PEOPLE];
        }

        int greens() {
            return Math.max(0, numbers[PEOPLE_GREENS]);
        }

        int call() {
            return numbers[CALL];
        }

        int interval() {
            return numbers[INTERVAL];
        }

        /** Tells whether a call sheet can go on with this character; only if so it is taken. */
        boolean reads(char character) {
            if (part == PLACE) {
                return readsPlace(character);
            }
            return readsDigit(character) || readsSign(character);
        }

        boolean mayEnd() {
            return part == INTERVAL && isWhole();
        }

        boolean readsPlace(char character) {
            if (character < '0' || character > '7') {
                return false;
            }
            place = character - '0';
            part = COLON;
            return true;
        }

        /** Every number that is not above the most can be continued to one that is not below the least. */
        boolean readsDigit(char character) {
            if (part >= NUMBERS || character < '0' || character > '9') {
                return false;
            }
            int digit = character - '0';
            int before = numbers[part];
            boolean leadingZero = before == 0 || before == NONE && digit == 0 && LEAST[part] > 0;
            int number = before == NONE ? digit : 10 * before + digit;
            if (leadingZero || number > MOST[part]) {
                return false;
            }
            numbers[part] = number;
            return true;
        }

        boolean isWhole() {
            return part < NUMBERS && numbers[part] >= LEAST[part];
        }

        boolean readsSign(char character) {
            int next = partBehind(character);
            if (next == NONE) {
                return false;
            }
            if (next == PLACE) {
                begin();
            } else {
                part = next;
            }
            return true;
        }

        /** The part that a sign opens; NONE if the sign cannot stand here. */
        int partBehind(char sign) {
            if (part == COLON) {
                return sign == ':' ? PEOPLE : NONE;
            }
            if (!isWhole()) {
                return NONE;
            }
            switch (part) {
                case PEOPLE:
                    return sign == 'g' ? PEOPLE_GREENS : sign == '@' ? CALL : NONE;
                case PEOPLE_GREENS:
                    return sign == '@' ? CALL : NONE;
                case CALL:
                    return sign == '+' ? INTERVAL : NONE;
                default:
                    return sign == ',' ? PLACE : NONE;
            }
        }
    }
}
