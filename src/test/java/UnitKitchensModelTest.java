import java.util.ArrayDeque;
import java.util.ArrayList;
import java.util.Comparator;
import java.util.Deque;
import java.util.List;
import java.util.regex.Matcher;
import java.util.regex.Pattern;

/**
 * Long runs of mixed calls, each answered by UnitKitchens and by a model that is written as plainly as the
 * document reads: every meal is an object, saved states are whole copies, call sheets are a regular expression,
 * the best grace is tried out. The runs come from fixed seeds.
 */
public final class UnitKitchensModelTest {
    private static final int CALLS = 512;
    private static final int RUNS_A_PROFILE = 150;
    private static final int MOST_SHOWN = 20;

    private static int wrong = 0;
    private static final int[] succeeded = new int[40];
    private static final int[] thrown = new int[40];

    public static void main(String[] args) {
        for (int profile = 0; profile < 5; profile++) {
            for (int seed = 0; seed < RUNS_A_PROFILE; seed++) {
                new Run(profile, seed).play();
            }
        }
        for (int call = 0; call < Run.KINDS; call++) {
            if (succeeded[call] < 20) {
                wrong++;
                System.out.println("kind of call " + call + " succeeded only " + succeeded[call] + " times");
            }
        }
        System.out.println(wrong == 0 ? "the model agrees" : wrong + " answers differ from the model");
        if (wrong != 0) {
            System.exit(1);
        }
    }

    // ---- the model

    private static void index(int i, int size) {
        if (i < 0 || i >= size) {
            throw new IndexOutOfBoundsException();
        }
    }

    private static void range(int value, int least, int most) {
        if (value < least || value > most) {
            throw new IllegalArgumentException();
        }
    }

    private static void state(boolean holds) {
        if (!holds) {
            throw new IllegalStateException();
        }
    }

    private record Meal(int dish, int minute) { }

    private static final class MUnit {
        String state = "works";
        int place, people, greens, call, interval, owedGreens, owedOthers, since = -1, served, penalty, cancelled;

        MUnit copy() {
            MUnit c = new MUnit();
            c.state = state;
            c.place = place;
            c.people = people;
            c.greens = greens;
            c.call = call;
            c.interval = interval;
            c.owedGreens = owedGreens;
            c.owedOthers = owedOthers;
            c.since = since;
            c.served = served;
            c.penalty = penalty;
            c.cancelled = cancelled;
            return c;
        }

        boolean works() {
            return state.equals("works");
        }

        int owed() {
            return owedGreens + owedOthers;
        }
    }

    /** A kitchen or a lorry. */
    private static final class Holder {
        int place, target = -1, left, potDish = -1, pot, cooked, served, thrown;
        int[] stock = new int[3];
        List<Meal> meals = new ArrayList<>();

        Holder copy() {
            Holder c = new Holder();
            c.place = place;
            c.target = target;
            c.left = left;
            c.potDish = potDish;
            c.pot = pot;
            c.cooked = cooked;
            c.served = served;
            c.thrown = thrown;
            c.stock = stock.clone();
            c.meals = new ArrayList<>(meals);
            return c;
        }

        int of(int dish) {
            int n = 0;
            for (Meal m : meals) {
                if (m.dish() == dish) {
                    n++;
                }
            }
            return n;
        }

        int oldest() {
            int oldest = -1;
            for (Meal m : meals) {
                if (oldest == -1 || m.minute() < oldest) {
                    oldest = m.minute();
                }
            }
            return oldest;
        }

        void sort() {
            meals.sort(Comparator.comparingInt(Meal::minute).thenComparingInt(Meal::dish));
        }
    }

    private static final class World {
        List<int[]> places = new ArrayList<>();
        List<Holder> kitchens = new ArrayList<>();
        List<Holder> lorries = new ArrayList<>();
        List<MUnit> units = new ArrayList<>();
        int[] settings = {10, 15, 1, 40, 5, 120};
        int minute, came;

        World copy() {
            World c = new World();
            c.places.addAll(places);
            kitchens.forEach(k -> c.kitchens.add(k.copy()));
            lorries.forEach(l -> c.lorries.add(l.copy()));
            units.forEach(u -> c.units.add(u.copy()));
            c.settings = settings.clone();
            c.minute = minute;
            c.came = came;
            return c;
        }

        int served() {
            return units.stream().mapToInt(u -> u.served).sum();
        }

        int thrown() {
            return kitchens.stream().mapToInt(k -> k.thrown).sum() + lorries.stream().mapToInt(l -> l.thrown).sum();
        }

        int penalties() {
            return units.stream().mapToInt(u -> u.penalty).sum();
        }

        int owed() {
            return units.stream().mapToInt(MUnit::owed).sum();
        }

        int driveTime(int from, int to) {
            if (from == to) {
                return 0;
            }
            int[] a = places.get(from);
            int[] b = places.get(to);
            int way = (Math.abs(a[0] - b[0]) + Math.abs(a[1] - b[1])) * settings[0];
            int minutes = way / 10 + (way % 10 == 0 ? 0 : 1);
            return Math.max(minutes, 1);
        }

        void minutePasses() {
            minute++;
            for (Holder l : lorries) {
                if (l.target >= 0 && --l.left == 0) {
                    l.place = l.target;
                    l.target = -1;
                }
            }
            for (Holder k : kitchens) {
                for (int i = 0; i < settings[4] && k.pot > 0; i++) {
                    k.meals.add(new Meal(k.potDish, minute));
                    k.cooked++;
                    k.pot--;
                    if (k.pot == 0) {
                        k.potDish = -1;
                    }
                }
            }
            List<Holder> all = new ArrayList<>(kitchens);
            all.addAll(lorries);
            for (Holder h : all) {
                int before = h.meals.size();
                h.meals.removeIf(m -> minute - m.minute() > settings[3]);
                h.thrown += before - h.meals.size();
                h.sort();
            }
            for (MUnit u : units) {
                if (u.works() && u.call == minute) {
                    if (u.owed() == 0) {
                        u.since = minute;
                    }
                    u.owedGreens += u.greens;
                    u.owedOthers += u.people - u.greens;
                    u.call += u.interval;
                    came += u.people;
                }
            }
            for (MUnit u : units) {
                if (u.works()) {
                    serve(u);
                }
            }
            for (MUnit u : units) {
                if (u.works() && u.owed() > 0 && minute - u.since > settings[1]) {
                    u.penalty = (int) Math.min(100000000L, u.penalty + (long) u.owed() * settings[2]);
                }
            }
        }

        void serve(MUnit u) {
            List<Holder> here = new ArrayList<>();
            for (Holder l : lorries) {
                if (l.target < 0 && l.place == u.place) {
                    here.add(l);
                }
            }
            for (Holder k : kitchens) {
                if (k.place == u.place) {
                    here.add(k);
                }
            }
            for (int round = 0; round < 3; round++) {
                for (Holder h : here) {
                    for (int i = 0; i < h.meals.size();) {
                        boolean fits = (h.meals.get(i).dish() == 1) == (round == 1);
                        int owed = round == 0 ? u.owedGreens : u.owedOthers;
                        if (!fits || owed == 0) {
                            i++;
                            continue;
                        }
                        h.meals.remove(i);
                        h.served++;
                        u.served++;
                        if (round == 0) {
                            u.owedGreens--;
                        } else {
                            u.owedOthers--;
                        }
                    }
                }
            }
            if (u.owed() == 0) {
                u.since = -1;
            }
        }
    }

    private static final class Model {
        static final String UNIT = "[0-7]:([1-9]|[1-9][0-9]|[12][0-9][0-9]|300)"
                + "(g(0|[1-9]|[1-9][0-9]|[12][0-9][0-9]|300))?"
                + "@([1-9]|[1-9][0-9]|[1-5][0-9][0-9]|600)"
                + "\\+([3-9][0-9]|[1-5][0-9][0-9]|600)";
        static final Pattern SHEET = Pattern.compile(UNIT + "(," + UNIT + ")*");

        World w = new World();
        final Deque<World> saved = new ArrayDeque<>();
        final StringBuilder buffer = new StringBuilder();

        void save() {
            saved.addLast(w.copy());
            if (saved.size() > 6) {
                saved.removeFirst();
            }
        }

        int addPlace(int x, int y) {
            range(x, 0, 99);
            range(y, 0, 99);
            state(w.places.size() < 8);
            save();
            w.places.add(new int[] {x, y});
            return w.places.size() - 1;
        }

        int addKitchen(int place) {
            index(place, w.places.size());
            state(w.kitchens.size() < 3);
            save();
            Holder k = new Holder();
            k.place = place;
            w.kitchens.add(k);
            return w.kitchens.size() - 1;
        }

        int addLorry(int place) {
            index(place, w.places.size());
            state(w.lorries.size() < 4);
            save();
            Holder l = new Holder();
            l.place = place;
            w.lorries.add(l);
            return w.lorries.size() - 1;
        }

        int set(int setting, int value) {
            index(setting, 6);
            int[][] ranges = {{1, 50}, {0, 120}, {0, 20}, {5, 60}, {1, 20}, {10, 500}};
            range(value, ranges[setting][0], ranges[setting][1]);
            save();
            int before = w.settings[setting];
            w.settings[setting] = value;
            return before;
        }

        int stock(int kitchen, int what, int many) {
            index(kitchen, w.kitchens.size());
            range(what, 0, 2);
            range(many, 1, 500);
            state(w.kitchens.get(kitchen).stock[what] + many <= 999);
            save();
            return w.kitchens.get(kitchen).stock[what] += many;
        }

        int cook(int kitchen, int dish, int many) {
            index(kitchen, w.kitchens.size());
            range(dish, 0, 2);
            range(many, 1, 300);
            Holder k = w.kitchens.get(kitchen);
            state(k.pot == 0);
            int grain = dish == 2 ? 0 : many;
            int greens = dish == 0 ? many : dish == 2 ? 2 * many : 0;
            int meat = dish == 1 ? many : 0;
            state(k.stock[0] >= grain && k.stock[1] >= greens && k.stock[2] >= meat);
            save();
            k.stock[0] -= grain;
            k.stock[1] -= greens;
            k.stock[2] -= meat;
            k.potDish = dish;
            k.pot = many;
            int minutes = 0;
            for (int cooked = 0; cooked < many; cooked += w.settings[4]) {
                minutes++;
            }
            return minutes;
        }

        int load(int lorry, int kitchen, int dish, int many) {
            index(lorry, w.lorries.size());
            index(kitchen, w.kitchens.size());
            range(dish, 0, 2);
            range(many, 1, 500);
            Holder l = w.lorries.get(lorry);
            Holder k = w.kitchens.get(kitchen);
            state(l.target < 0 && l.place == k.place);
            state(k.of(dish) >= many);
            state(l.meals.size() + many <= w.settings[5]);
            save();
            k.sort();
            for (int i = 0; i < many; i++) {
                for (Meal m : k.meals) {
                    if (m.dish() == dish) {
                        k.meals.remove(m);
                        l.meals.add(m);
                        break;
                    }
                }
            }
            l.sort();
            return l.meals.size();
        }

        int unload(int lorry, int kitchen) {
            index(lorry, w.lorries.size());
            index(kitchen, w.kitchens.size());
            Holder l = w.lorries.get(lorry);
            Holder k = w.kitchens.get(kitchen);
            state(l.target < 0 && l.place == k.place);
            save();
            int many = l.meals.size();
            k.meals.addAll(l.meals);
            k.sort();
            l.meals.clear();
            return many;
        }

        int drive(int lorry, int place) {
            index(lorry, w.lorries.size());
            index(place, w.places.size());
            Holder l = w.lorries.get(lorry);
            state(l.target < 0 && l.place != place);
            save();
            l.left = w.driveTime(l.place, place);
            l.target = place;
            return l.left;
        }

        int addUnit(int place, int people, int greens, int call, int interval) {
            int number = addUnitUnsaved(place, people, greens, call, interval, true);
            return number;
        }

        int addUnitUnsaved(int place, int people, int greens, int call, int interval, boolean saving) {
            index(place, w.places.size());
            range(people, 1, 300);
            range(greens, 0, people);
            range(call, 1, 600);
            range(interval, 30, 600);
            state(w.units.size() < 12);
            if (saving) {
                save();
            }
            MUnit u = new MUnit();
            u.place = place;
            u.people = people;
            u.greens = greens;
            u.call = w.minute + call;
            u.interval = interval;
            w.units.add(u);
            return w.units.size() - 1;
        }

        int split(int unit, int people, int greens) {
            index(unit, w.units.size());
            range(people, 1, 299);
            range(greens, 0, people);
            MUnit u = w.units.get(unit);
            state(u.works());
            state(w.units.size() < 12);
            state(u.people > people);
            state(u.greens >= greens);
            state(u.people - u.greens >= people - greens);
            save();
            MUnit n = new MUnit();
            n.place = u.place;
            n.people = people;
            n.greens = greens;
            n.call = u.call;
            n.interval = u.interval;
            u.people -= people;
            u.greens -= greens;
            w.units.add(n);
            return w.units.size() - 1;
        }

        int join(int unit, int other) {
            index(unit, w.units.size());
            index(other, w.units.size());
            if (unit == other) {
                throw new IllegalArgumentException();
            }
            MUnit u = w.units.get(unit);
            MUnit o = w.units.get(other);
            state(u.works() && o.works());
            state(u.place == o.place);
            state(u.people + o.people <= 300);
            save();
            o.people += u.people;
            o.greens += u.greens;
            if (u.owed() > 0 && (o.owed() == 0 || u.since < o.since)) {
                o.since = u.since;
            }
            o.owedGreens += u.owedGreens;
            o.owedOthers += u.owedOthers;
            u.owedGreens = 0;
            u.owedOthers = 0;
            u.state = "joined";
            return o.people;
        }

        int move(int unit, int place) {
            index(unit, w.units.size());
            index(place, w.places.size());
            state(w.units.get(unit).works());
            save();
            int before = w.units.get(unit).place;
            w.units.get(unit).place = place;
            return before;
        }

        int wrap(int unit) {
            index(unit, w.units.size());
            MUnit u = w.units.get(unit);
            state(u.works());
            save();
            u.cancelled += u.owed();
            int cancelled = u.owed();
            u.owedGreens = 0;
            u.owedOthers = 0;
            u.state = "wrapped";
            return cancelled;
        }

        int pass(int minutes) {
            range(minutes, 1, 200);
            state(w.minute + minutes <= 20000);
            save();
            int before = w.served();
            for (int i = 0; i < minutes; i++) {
                w.minutePasses();
            }
            return w.served() - before;
        }

        int append(int code) {
            range(code, 33, 126);
            state(buffer.length() < 60);
            buffer.append((char) code);
            return buffer.length();
        }

        int clearBuffer() {
            int length = buffer.length();
            buffer.setLength(0);
            return length;
        }

        int firstError() {
            for (int end = 1; end <= buffer.length(); end++) {
                Matcher m = SHEET.matcher(buffer.substring(0, end));
                if (!m.matches() && !m.hitEnd()) {
                    return end - 1;
                }
            }
            return buffer.length();
        }

        int addSheet() {
            if (!SHEET.matcher(buffer).matches()) {
                throw new IllegalArgumentException();
            }
            save();
            int added = 0;
            for (String unit : buffer.toString().split(",")) {
                String[] parts = unit.split("[:@+]");
                String[] eaters = parts[1].split("g");
                int greens = eaters.length > 1 ? Integer.parseInt(eaters[1]) : 0;
                try {
                    addUnitUnsaved(Integer.parseInt(parts[0]), Integer.parseInt(eaters[0]), greens,
                            Integer.parseInt(parts[2]), Integer.parseInt(parts[3]), false);
                } catch (RuntimeException e) {
                    break;
                }
                added++;
            }
            buffer.setLength(0);
            return added;
        }

        int undo() {
            state(!saved.isEmpty());
            w = saved.removeLast();
            return saved.size();
        }

        int place(int place, int what) {
            index(place, w.places.size());
            range(what, 0, 6);
            int n = 0;
            switch (what) {
                case 0:
                case 1:
                    return w.places.get(place)[what];
                case 2:
                    for (MUnit u : w.units) {
                        n += u.works() && u.place == place ? 1 : 0;
                    }
                    return n;
                case 3:
                    for (Holder k : w.kitchens) {
                        n += k.place == place ? 1 : 0;
                    }
                    return n;
                case 4:
                    for (Holder l : w.lorries) {
                        n += l.target < 0 && l.place == place ? 1 : 0;
                    }
                    return n;
                case 5:
                    for (Holder k : w.kitchens) {
                        n += k.place == place ? k.meals.size() : 0;
                    }
                    for (Holder l : w.lorries) {
                        n += l.target < 0 && l.place == place ? l.meals.size() : 0;
                    }
                    return n;
                default:
                    for (MUnit u : w.units) {
                        n += u.works() && u.place == place ? u.owed() : 0;
                    }
                    return n;
            }
        }

        int unit(int unit, int what) {
            index(unit, w.units.size());
            range(what, 0, 11);
            MUnit u = w.units.get(unit);
            int number = u.works() ? 0 : u.state.equals("wrapped") ? 1 : 2;
            int[] all = {number, u.place, u.people, u.greens, u.call, u.interval, u.owedGreens, u.owedOthers,
                u.owed() > 0 ? u.since : -1, u.served, u.penalty, u.cancelled};
            return !u.works() && what >= 1 && what <= 8 ? -1 : all[what];
        }

        int kitchen(int kitchen, int what) {
            index(kitchen, w.kitchens.size());
            range(what, 0, 11);
            Holder k = w.kitchens.get(kitchen);
            int[] all = {k.place, k.stock[0], k.stock[1], k.stock[2], k.potDish, k.pot, k.of(0), k.of(1), k.of(2),
                k.oldest(), k.cooked, k.thrown};
            return all[what];
        }

        int lorry(int lorry, int what) {
            index(lorry, w.lorries.size());
            range(what, 0, 8);
            Holder l = w.lorries.get(lorry);
            int[] all = {l.target < 0 ? l.place : -1, l.target, l.target < 0 ? 0 : l.left, l.of(0), l.of(1), l.of(2),
                l.oldest(), l.served, l.thrown};
            return all[what];
        }

        int count(int what) {
            range(what, 0, 16);
            switch (what) {
                case 0:
                    return w.places.size();
                case 1:
                    return w.kitchens.size();
                case 2:
                    return w.lorries.size();
                case 3:
                    return w.units.size();
                case 4:
                    return (int) w.units.stream().filter(MUnit::works).count();
                case 5:
                    return w.units.stream().filter(MUnit::works).mapToInt(u -> u.people).sum();
                case 6:
                    return w.minute;
                case 7:
                    return w.kitchens.stream().mapToInt(k -> k.cooked).sum();
                case 8:
                    return w.served();
                case 9:
                    return w.thrown();
                case 10:
                    return w.kitchens.stream().mapToInt(k -> k.meals.size()).sum();
                case 11:
                    return w.lorries.stream().mapToInt(l -> l.meals.size()).sum();
                case 12:
                    return w.came;
                case 13:
                    return w.owed();
                case 14:
                    return w.units.stream().mapToInt(u -> u.cancelled).sum();
                case 15:
                    return w.penalties();
                default:
                    return saved.size();
            }
        }

        int setting(int setting) {
            index(setting, 6);
            return w.settings[setting];
        }

        int ifPassed(int minutes, int what) {
            range(minutes, 1, 200);
            range(what, 0, 3);
            World then = w.copy();
            for (int i = 0; i < minutes; i++) {
                then.minutePasses();
            }
            int[] all = {then.served() - w.served(), then.thrown() - w.thrown(), then.penalties() - w.penalties(),
                then.owed()};
            return all[what];
        }

        int callsIn(int minutes, int what) {
            range(minutes, 1, 1000);
            range(what, 0, 1);
            int n = 0;
            for (MUnit u : w.units) {
                if (u.works()) {
                    for (int call = u.call; call <= w.minute + minutes; call += u.interval) {
                        n += what == 0 ? u.greens : u.people - u.greens;
                    }
                }
            }
            return n;
        }

        int canCook(int kitchen, int dish) {
            index(kitchen, w.kitchens.size());
            range(dish, 0, 2);
            int[] s = w.kitchens.get(kitchen).stock;
            int n = dish == 0 ? Math.min(s[0], s[1]) : dish == 1 ? Math.min(s[0], s[2]) : s[1] / 2;
            return Math.min(n, 300);
        }

        int bestLorry(int unit) {
            index(unit, w.units.size());
            MUnit u = w.units.get(unit);
            int best = -1;
            int bestTime = 0;
            int bestMeals = 0;
            for (int i = 0; i < w.lorries.size() && u.works(); i++) {
                Holder l = w.lorries.get(i);
                int meals = l.of(0) + l.of(2) + (u.people > u.greens ? l.of(1) : 0);
                int time = l.target < 0 ? w.driveTime(l.place, u.place) : l.left + w.driveTime(l.target, u.place);
                if (meals == 0) {
                    continue;
                }
                if (best < 0 || time < bestTime || time == bestTime && meals > bestMeals) {
                    best = i;
                    bestTime = time;
                    bestMeals = meals;
                }
            }
            return best;
        }

        int enoughGrace(int minutes) {
            range(minutes, 1, 200);
            for (int grace = 0; grace <= 120; grace++) {
                World then = w.copy();
                then.settings[1] = grace;
                for (int i = 0; i < minutes && then.penalties() == w.penalties(); i++) {
                    then.minutePasses();
                }
                if (then.penalties() == w.penalties()) {
                    return grace;
                }
            }
            return -1;
        }

        double servedShare() {
            return w.came == 0 ? 0.0 : (double) w.served() / w.came;
        }

        long digest() {
            List<Long> values = new ArrayList<>();
            for (int i = 0; i <= 16; i++) {
                values.add((long) count(i));
            }
            for (int i = 0; i < 6; i++) {
                values.add((long) setting(i));
            }
            for (int p = 0; p < w.places.size(); p++) {
                for (int i = 0; i <= 6; i++) {
                    values.add((long) place(p, i));
                }
            }
            for (int u = 0; u < w.units.size(); u++) {
                for (int i = 0; i <= 11; i++) {
                    values.add((long) unit(u, i));
                }
                values.add((long) bestLorry(u));
            }
            for (int k = 0; k < w.kitchens.size(); k++) {
                for (int i = 0; i <= 11; i++) {
                    values.add((long) kitchen(k, i));
                }
                for (int i = 0; i < 3; i++) {
                    values.add((long) canCook(k, i));
                }
            }
            for (int l = 0; l < w.lorries.size(); l++) {
                for (int i = 0; i <= 8; i++) {
                    values.add((long) lorry(l, i));
                }
            }
            for (int i = 0; i <= 3; i++) {
                values.add((long) ifPassed(30, i));
            }
            values.add((long) callsIn(120, 0));
            values.add((long) callsIn(120, 1));
            values.add((long) enoughGrace(20));
            values.add(Double.doubleToLongBits(servedShare()));
            values.add((long) buffer.length());
            for (int i = 0; i < buffer.length(); i++) {
                values.add((long) buffer.charAt(i));
            }
            long hash = 2389;
            for (long value : values) {
                hash = 31 * hash + value;
            }
            return hash;
        }
    }

    // ---- the runs

    private static final class Run {
        static final int KINDS = 33;
        /** How often each kind of call comes, by its number in call(); a row for each profile. */
        private static final int[][] WEIGHTS = {
            // all alike
            {6, 4, 4, 5, 12, 14, 14, 4, 12, 10, 8, 8, 6, 3, 20, 8, 1, 3, 4, 6, 3, 5, 5, 5, 5, 1, 4, 3, 3, 3, 1, 1, 8},
            // many meals, lorries and minutes
            {4, 3, 3, 2, 20, 25, 25, 5, 20, 6, 2, 2, 2, 1, 30, 0, 0, 0, 0, 2, 1, 2, 2, 2, 2, 0, 3, 1, 1, 5, 1, 1, 8},
            // units that come and go, with undo
            {4, 2, 2, 3, 6, 6, 6, 2, 6, 12, 20, 20, 10, 6, 12, 0, 0, 0, 0, 14, 2, 6, 1, 1, 2, 0, 1, 3, 0, 3, 1, 1, 8},
            // texts
            {4, 1, 1, 1, 1, 1, 1, 1, 1, 1, 1, 1, 1, 1, 3, 120, 1, 20, 6, 8, 1, 2, 1, 1, 1, 1, 1, 1, 1, 1, 1, 1, 8},
            // long waits
            {3, 3, 3, 6, 8, 8, 6, 3, 6, 12, 4, 4, 3, 1, 60, 0, 0, 0, 0, 2, 1, 4, 2, 2, 4, 0, 4, 4, 1, 2, 2, 2, 8},
        };

        final int profile;
        final int seed;
        long random;
        final UnitKitchens real = new UnitKitchens();
        final Model model = new Model();
        String told = "";
        int sheetAt = 0;
        String sheet = "";

        Run(int profile, int seed) {
            this.profile = profile;
            this.seed = seed;
            random = 1000003L * profile + seed;
            for (int i = 0; i < 10; i++) {
                below(2);
            }
        }

        int below(int n) {
            random = random * 6364136223846793005L + 1442695040888963407L;
            return (int) ((random >>> 33) % n);
        }

        int from(int least, int most) {
            return least + below(most - least + 1);
        }

        /** Mostly one of size numbers, sometimes one beside them. */
        int number(int size) {
            int p = below(40);
            return p == 0 ? -1 : p == 1 ? size : p == 2 ? wild() : size == 0 ? 0 : below(size);
        }

        /** Of the first two places more often, so that kitchens, lorries and units meet. */
        int somePlace() {
            int places = model.w.places.size();
            return places > 0 && below(2) == 0 ? below(Math.min(2, places)) : number(places);
        }

        /** Mostly a value in the range, often its edges, sometimes beside it. */
        int value(int least, int most) {
            int p = below(40);
            return p == 0 ? least - 1 : p == 1 ? most + 1 : p == 2 ? wild() : p < 6 ? least : p < 9 ? most
                    : from(least, most);
        }

        int wild() {
            int[] all = {Integer.MIN_VALUE, Integer.MAX_VALUE, -1, 0, 1000000, -7, 64, Integer.MIN_VALUE + 1};
            return all[below(all.length)];
        }

        int kind() {
            // a sheet that is complete is often added, a faulty one cleared, so that both happen often enough
            if (profile == 3 && Model.SHEET.matcher(model.buffer).matches() && below(6) == 0) {
                return 18;
            }
            if (profile == 3 && below(4) == 0 && model.firstError() < model.buffer.length()) {
                return 16;
            }
            int[] weights = WEIGHTS[profile];
            int sum = 0;
            for (int weight : weights) {
                sum += weight;
            }
            int left = below(sum);
            for (int k = 0; k < KINDS; k++) {
                left -= weights[k];
                if (left < 0) {
                    return k;
                }
            }
            return 0;
        }

        void play() {
            for (int i = 0; i < CALLS && wrong < MOST_SHOWN; i++) {
                int kind = i < 4 ? i % 3 == 0 ? 0 : i % 3 : kind();
                int[] a = arguments(kind);
                String got = answer(kind, a, true);
                String due = answer(kind, a, false);
                if (due.startsWith("throws")) {
                    thrown[kind]++;
                } else {
                    succeeded[kind]++;
                }
                if (!got.equals(due)) {
                    wrong++;
                    System.out.println("profile " + profile + ", seed " + seed + ", call " + i + ": " + told + " answered "
                            + got + ", the model " + due);
                }
            }
        }

        String answer(int kind, int[] a, boolean ofReal) {
            try {
                return ofReal ? callReal(kind, a) : callModel(kind, a);
            } catch (IndexOutOfBoundsException | IllegalArgumentException | IllegalStateException e) {
                return "throws " + e.getClass().getSimpleName();
            }
        }

        int code() {
            if (sheetAt >= sheet.length() || model.buffer.length() == 0) {
                sheet = (model.buffer.length() == 0 ? "" : ",") + randomSheet();
                sheetAt = 0;
            }
            int p = below(150);
            return p == 0 ? value(33, 126) : p == 1 ? "0123456789:g@+,".charAt(below(15)) : sheet.charAt(sheetAt++);
        }

        String randomSheet() {
            int people = below(20) == 0 ? from(0, 310) : from(1, 300);
            StringBuilder text = new StringBuilder();
            text.append(below(20) == 0 ? from(0, 9) : below(Math.max(1, model.w.places.size())));
            text.append(':').append(people);
            if (below(2) == 0) {
                text.append('g').append(below(10) == 0 ? from(0, 310) : from(0, people));
            }
            text.append('@').append(below(20) == 0 ? from(0, 610) : from(1, 600));
            text.append('+').append(below(20) == 0 ? from(0, 610) : from(30, 600));
            return text.toString();
        }

        int[] arguments(int kind) {
            int places = model.w.places.size();
            int kitchens = model.w.kitchens.size();
            int lorries = model.w.lorries.size();
            int units = model.w.units.size();
            switch (kind) {
                case 0:
                    int far = below(2) == 0 ? 99 : 9;
                    return new int[] {value(0, far), value(0, far)};
                case 1:
                case 2:
                    return new int[] {somePlace()};
                case 3:
                    int setting = number(6);
                    int[][] ranges = {{1, 50}, {0, 120}, {0, 20}, {5, 60}, {1, 20}, {10, 500}};
                    int[] r = setting < 0 || setting > 5 ? new int[] {1, 5} : ranges[setting];
                    return new int[] {setting, value(r[0], r[1])};
                case 4:
                    return new int[] {number(kitchens), value(0, 2), value(1, below(3) == 0 ? 500 : 100)};
                case 5:
                    return cookArguments(kitchens);
                case 6:
                    return loadArguments(kitchens, lorries);
                case 7:
                    return unloadArguments(kitchens, lorries);
                case 8:
                    return new int[] {number(lorries), somePlace()};
                case 9:
                    int people = value(1, below(3) == 0 ? 300 : 40);
                    int call = value(1, below(3) == 0 ? 600 : 20);
                    return new int[] {somePlace(), people, value(0, Math.max(0, Math.min(300, people))), call,
                        value(30, below(3) == 0 ? 600 : 60)};
                case 10:
                    return splitArguments(units);
                case 11:
                    return new int[] {number(units), number(units)};
                case 12:
                    return new int[] {number(units), somePlace()};
                case 13:
                    return new int[] {number(units)};
                case 14:
                    int most = profile == 4 || below(8) == 0 ? 200 : 12;
                    return new int[] {value(1, profile == 1 && below(2) == 0 ? 3 : most)};
                case 15:
                    return new int[] {code()};
                case 20:
                    return new int[] {number(places), value(0, 6)};
                case 21:
                    return new int[] {number(units), value(0, 11)};
                case 22:
                    return new int[] {number(kitchens), value(0, 11)};
                case 23:
                    return new int[] {number(lorries), value(0, 8)};
                case 24:
                    return new int[] {value(0, 16)};
                case 25:
                    return new int[] {number(6)};
                case 26:
                    return new int[] {value(1, 200), value(0, 3)};
                case 27:
                    return new int[] {value(1, 1000), value(0, 1)};
                case 28:
                    return new int[] {number(kitchens), value(0, 2)};
                case 29:
                    return new int[] {number(units)};
                case 30:
                    return new int[] {value(1, 200)};
                default:
                    return new int[0];
            }
        }

        int[] loadArguments(int kitchens, int lorries) {
            int[] any = {number(lorries), number(kitchens), value(0, 2), value(1, 30)};
            if (kitchens == 0 || below(4) == 0) {
                return any;
            }
            List<int[]> good = new ArrayList<>();
            for (int k = 0; k < kitchens; k++) {
                for (int l = 0; l < lorries; l++) {
                    Holder kitchen = model.w.kitchens.get(k);
                    Holder lorry = model.w.lorries.get(l);
                    for (int d = 0; d < 3; d++) {
                        if (lorry.target < 0 && lorry.place == kitchen.place && kitchen.of(d) > 0) {
                            good.add(new int[] {l, k, d, from(1, kitchen.of(d) + 1)});
                        }
                    }
                }
            }
            return good.isEmpty() ? any : good.get(below(good.size()));
        }

        int[] unloadArguments(int kitchens, int lorries) {
            int[] any = {number(lorries), number(kitchens)};
            for (int k = 0; k < kitchens && below(4) > 0; k++) {
                for (int l = 0; l < lorries; l++) {
                    Holder lorry = model.w.lorries.get(l);
                    if (lorry.target < 0 && lorry.place == model.w.kitchens.get(k).place) {
                        return new int[] {l, k};
                    }
                }
            }
            return any;
        }

        int[] cookArguments(int kitchens) {
            int kitchen = number(kitchens);
            int dish = value(0, 2);
            int most = below(4) == 0 ? 300 : 40;
            if (kitchen >= 0 && kitchen < kitchens && dish >= 0 && dish < 3 && below(3) > 0) {
                most = Math.max(1, Math.min(most, model.canCook(kitchen, dish) + 1));
            }
            return new int[] {kitchen, dish, value(1, most)};
        }

        int[] splitArguments(int units) {
            int unit = number(units);
            if (unit < 0 || unit >= units || below(6) == 0) {
                return new int[] {unit, value(1, 299), value(0, 3)};
            }
            MUnit u = model.w.units.get(unit);
            int people = from(1, Math.max(1, u.people));
            return new int[] {unit, people, from(0, Math.min(people, u.greens + 1))};
        }

        String tell(String name, int[] a) {
            StringBuilder text = new StringBuilder(name).append('(');
            for (int i = 0; i < a.length; i++) {
                text.append(i == 0 ? "" : ", ").append(a[i]);
            }
            return text.append(')').toString();
        }

        String callReal(int kind, int[] a) {
            String[] names = {"addPlace", "addKitchen", "addLorry", "set", "stock", "cook", "load", "unload", "drive",
                "addUnit", "split", "join", "move", "wrap", "pass", "append", "clearBuffer", "firstError", "addSheet",
                "undo", "place", "unit", "kitchen", "lorry", "count", "setting", "ifPassed", "callsIn", "canCook",
                "bestLorry", "enoughGrace", "servedShare", "digest"};
            told = tell(names[kind], a);
            UnitKitchens x = real;
            switch (kind) {
                case 0: return "" + x.addPlace(a[0], a[1]);
                case 1: return "" + x.addKitchen(a[0]);
                case 2: return "" + x.addLorry(a[0]);
                case 3: return "" + x.set(a[0], a[1]);
                case 4: return "" + x.stock(a[0], a[1], a[2]);
                case 5: return "" + x.cook(a[0], a[1], a[2]);
                case 6: return "" + x.load(a[0], a[1], a[2], a[3]);
                case 7: return "" + x.unload(a[0], a[1]);
                case 8: return "" + x.drive(a[0], a[1]);
                case 9: return "" + x.addUnit(a[0], a[1], a[2], a[3], a[4]);
                case 10: return "" + x.split(a[0], a[1], a[2]);
                case 11: return "" + x.join(a[0], a[1]);
                case 12: return "" + x.move(a[0], a[1]);
                case 13: return "" + x.wrap(a[0]);
                case 14: return "" + x.pass(a[0]);
                case 15: return "" + x.append(a[0]);
                case 16: return "" + x.clearBuffer();
                case 17: return "" + x.firstError();
                case 18: return "" + x.addSheet();
                case 19: return "" + x.undo();
                case 20: return "" + x.place(a[0], a[1]);
                case 21: return "" + x.unit(a[0], a[1]);
                case 22: return "" + x.kitchen(a[0], a[1]);
                case 23: return "" + x.lorry(a[0], a[1]);
                case 24: return "" + x.count(a[0]);
                case 25: return "" + x.setting(a[0]);
                case 26: return "" + x.ifPassed(a[0], a[1]);
                case 27: return "" + x.callsIn(a[0], a[1]);
                case 28: return "" + x.canCook(a[0], a[1]);
                case 29: return "" + x.bestLorry(a[0]);
                case 30: return "" + x.enoughGrace(a[0]);
                case 31: return "" + Double.doubleToRawLongBits(x.servedShare());
                default: return "" + x.digest();
            }
        }

        String callModel(int kind, int[] a) {
            Model x = model;
            switch (kind) {
                case 0: return "" + x.addPlace(a[0], a[1]);
                case 1: return "" + x.addKitchen(a[0]);
                case 2: return "" + x.addLorry(a[0]);
                case 3: return "" + x.set(a[0], a[1]);
                case 4: return "" + x.stock(a[0], a[1], a[2]);
                case 5: return "" + x.cook(a[0], a[1], a[2]);
                case 6: return "" + x.load(a[0], a[1], a[2], a[3]);
                case 7: return "" + x.unload(a[0], a[1]);
                case 8: return "" + x.drive(a[0], a[1]);
                case 9: return "" + x.addUnit(a[0], a[1], a[2], a[3], a[4]);
                case 10: return "" + x.split(a[0], a[1], a[2]);
                case 11: return "" + x.join(a[0], a[1]);
                case 12: return "" + x.move(a[0], a[1]);
                case 13: return "" + x.wrap(a[0]);
                case 14: return "" + x.pass(a[0]);
                case 15: return "" + x.append(a[0]);
                case 16: return "" + x.clearBuffer();
                case 17: return "" + x.firstError();
                case 18: return "" + x.addSheet();
                case 19: return "" + x.undo();
                case 20: return "" + x.place(a[0], a[1]);
                case 21: return "" + x.unit(a[0], a[1]);
                case 22: return "" + x.kitchen(a[0], a[1]);
                case 23: return "" + x.lorry(a[0], a[1]);
                case 24: return "" + x.count(a[0]);
                case 25: return "" + x.setting(a[0]);
                case 26: return "" + x.ifPassed(a[0], a[1]);
                case 27: return "" + x.callsIn(a[0], a[1]);
                case 28: return "" + x.canCook(a[0], a[1]);
                case 29: return "" + x.bestLorry(a[0]);
                case 30: return "" + x.enoughGrace(a[0]);
                case 31: return "" + Double.doubleToRawLongBits(x.servedShare());
                default: return "" + x.digest();
            }
        }
    }
}
