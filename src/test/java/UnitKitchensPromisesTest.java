import java.util.function.DoubleSupplier;
import java.util.function.LongSupplier;

/** One method for each promise of ../shared/DOC.md: ordinary inputs, the edges that it names, and wrong inputs. */
public final class UnitKitchensPromisesTest {
    private static final String INDEX = "IndexOutOfBoundsException";
    private static final String ARGUMENT = "IllegalArgumentException";
    private static final String STATE = "IllegalStateException";
    private static final int NONE = UnitKitchens.NONE;
    private static final int MIN = Integer.MIN_VALUE;
    private static final int MAX = Integer.MAX_VALUE;

    private static int wrong = 0;
    private static int checks = 0;
    private static String promise = "";

    public static void main(String[] args) {
        newObject();
        addPlace();
        addKitchen();
        addLorry();
        set();
        stock();
        cook();
        load();
        unload();
        drive();
        addUnit();
        split();
        join();
        move();
        wrap();
        pass();
        passServes();
        passPunishes();
        append();
        clearBuffer();
        firstError();
        addSheet();
        undo();
        place();
        unit();
        kitchen();
        lorry();
        count();
        setting();
        ifPassed();
        callsIn();
        canCook();
        bestLorry();
        enoughGrace();
        servedShare();
        digest();
        System.out.println(wrong == 0 ? checks + " checks hold" : wrong + " of " + checks + " checks fail");
        if (wrong != 0) {
            System.exit(1);
        }
    }

    // ---- helpers

    private static void is(long got, long due) {
        checks++;
        if (got != due) {
            wrong++;
            tell("answered " + got + ", due is " + due);
        }
    }

    private static void fails(String name, LongSupplier call) {
        checks++;
        String got;
        try {
            got = "answered " + call.getAsLong();
        } catch (RuntimeException e) {
            got = e.getClass().getSimpleName();
        }
        if (!got.equals(name)) {
            wrong++;
            tell(got + ", due is " + name);
        }
    }

    private static void tell(String what) {
        for (StackTraceElement frame : new Throwable().getStackTrace()) {
            String method = frame.getMethodName();
            if (!method.equals("tell") && !method.equals("is") && !method.equals("fails")) {
                System.out.println(promise + ", line " + frame.getLineNumber() + ": " + what);
                return;
            }
        }
    }

    /** A film with places at (0, 0), (3, 4), (0, 0) and (99, 99). */
    private static UnitKitchens film() {
        UnitKitchens x = new UnitKitchens();
        x.addPlace(0, 0);
        x.addPlace(3, 4);
        x.addPlace(0, 0);
        x.addPlace(99, 99);
        return x;
    }

    /** A film with a kitchen at place 0 that has 500 of each ingredient, and a lorry there. */
    private static UnitKitchens kitchenAndLorry() {
        UnitKitchens x = film();
        x.addKitchen(0);
        x.addLorry(0);
        for (int what = 0; what < 3; what++) {
            x.stock(0, what, 500);
        }
        return x;
    }

    private static void cookAll(UnitKitchens x, int kitchen, int dish, int many) {
        x.pass(x.cook(kitchen, dish, many));
    }

    private static void type(UnitKitchens x, String text) {
        for (int i = 0; i < text.length(); i++) {
            x.append(text.charAt(i));
        }
    }

    private static UnitKitchens typed(String text) {
        UnitKitchens x = film();
        type(x, text);
        return x;
    }

    /** Looks at every property, so that a call that throws can be seen to change nothing. */
    private static long look(UnitKitchens x) {
        return x.digest();
    }

    // ---- the promises

    private static void newObject() {
        promise = "promise 1";
        UnitKitchens x = new UnitKitchens();
        for (int what = 0; what <= 16; what++) {
            is(x.count(what), 0);
        }
        int[] first = {10, 15, 1, 40, 5, 120};
        for (int setting = 0; setting < 6; setting++) {
            is(x.setting(setting), first[setting]);
        }
        is(x.clearBuffer(), 0);
        is(x.firstError(), 0);
        fails(STATE, x::undo);
        is(NONE, -1);
        // an object has nothing in common with another one
        UnitKitchens y = new UnitKitchens();
        x.addPlace(1, 1);
        x.append('0');
        x.set(0, 20);
        is(y.count(0), 0);
        is(y.clearBuffer(), 0);
        is(y.setting(0), 10);
    }

    private static void addPlace() {
        promise = "promise 2";
        UnitKitchens x = new UnitKitchens();
        fails(ARGUMENT, () -> x.addPlace(-1, 0));
        fails(ARGUMENT, () -> x.addPlace(0, -1));
        fails(ARGUMENT, () -> x.addPlace(100, 0));
        fails(ARGUMENT, () -> x.addPlace(0, 100));
        fails(ARGUMENT, () -> x.addPlace(MIN, MAX));
        is(x.count(16), 0);
        for (int i = 0; i < 8; i++) {
            is(x.addPlace(i == 0 ? 99 : i, i == 1 ? 99 : 0), i);
        }
        is(x.place(0, 0), 99);
        is(x.place(1, 1), 99);
        is(x.place(0, 1), 0);
        is(x.count(0), 8);
        is(x.count(16), 6);
        fails(STATE, () -> x.addPlace(0, 0));
        fails(ARGUMENT, () -> x.addPlace(100, 0));
        is(x.count(0), 8);
        x.undo();
        is(x.count(0), 7);
        is(x.addPlace(5, 6), 7);
        is(x.place(7, 0), 5);
    }

    private static void addKitchen() {
        promise = "promise 3";
        UnitKitchens x = film();
        fails(INDEX, () -> x.addKitchen(-1));
        fails(INDEX, () -> x.addKitchen(4));
        fails(INDEX, () -> x.addKitchen(MAX));
        is(x.count(16), 4);
        is(x.addKitchen(3), 0);
        is(x.addKitchen(3), 1);
        is(x.addKitchen(0), 2);
        is(x.kitchen(1, 0), 3);
        is(x.kitchen(2, 0), 0);
        is(x.place(3, 3), 2);
        fails(STATE, () -> x.addKitchen(0));
        fails(INDEX, () -> x.addKitchen(4));
        is(x.count(1), 3);
        x.stock(2, 0, 9);
        x.undo();
        x.undo();
        is(x.count(1), 2);
        is(x.addKitchen(1), 2);
        is(x.kitchen(2, 1), 0);
        is(x.kitchen(2, 0), 1);
    }

    private static void addLorry() {
        promise = "promise 4";
        UnitKitchens x = film();
        fails(INDEX, () -> x.addLorry(-1));
        fails(INDEX, () -> x.addLorry(4));
        fails(INDEX, () -> x.addLorry(MIN));
        is(x.count(16), 4);
        for (int i = 0; i < 4; i++) {
            is(x.addLorry(i == 0 ? 3 : 1), i);
        }
        is(x.lorry(0, 0), 3);
        is(x.lorry(3, 0), 1);
        is(x.lorry(3, 3) + x.lorry(3, 4) + x.lorry(3, 5), 0);
        fails(STATE, () -> x.addLorry(0));
        fails(INDEX, () -> x.addLorry(4));
        is(x.count(2), 4);
        x.undo();
        is(x.count(2), 3);
        x.drive(0, 0);
        is(x.addLorry(0), 3);
        is(x.lorry(3, 0), 0);
    }

    private static void set() {
        promise = "promise 5";
        UnitKitchens x = new UnitKitchens();
        int[] least = {1, 0, 0, 5, 1, 10};
        int[] most = {50, 120, 20, 60, 20, 500};
        int[] first = {10, 15, 1, 40, 5, 120};
        for (int i = 0; i < 6; i++) {
            int setting = i;
            fails(ARGUMENT, () -> x.set(setting, least[setting] - 1));
            fails(ARGUMENT, () -> x.set(setting, most[setting] + 1));
            fails(ARGUMENT, () -> x.set(setting, MIN));
            fails(ARGUMENT, () -> x.set(setting, MAX));
            is(x.set(setting, least[setting]), first[setting]);
            is(x.set(setting, most[setting]), least[setting]);
            is(x.set(setting, most[setting]), most[setting]);
            is(x.setting(setting), most[setting]);
        }
        fails(INDEX, () -> x.set(-1, 5));
        fails(INDEX, () -> x.set(6, 5));
        fails(INDEX, () -> x.set(6, MAX));
        is(x.count(16), 6);
        x.undo();
        is(x.count(16), 5);
        is(x.setting(5), 500);
        x.undo();
        is(x.setting(5), 10);
    }

    private static void stock() {
        promise = "promise 6";
        UnitKitchens x = film();
        fails(INDEX, () -> x.stock(0, 0, 1));
        x.addKitchen(0);
        x.addKitchen(0);
        fails(INDEX, () -> x.stock(-1, 0, 1));
        fails(INDEX, () -> x.stock(2, 9, 9999));
        fails(ARGUMENT, () -> x.stock(0, -1, 1));
        fails(ARGUMENT, () -> x.stock(0, 3, 1));
        fails(ARGUMENT, () -> x.stock(0, 0, 0));
        fails(ARGUMENT, () -> x.stock(0, 0, 501));
        fails(ARGUMENT, () -> x.stock(0, 0, MAX));
        int saved = x.count(16);
        is(saved, 6);
        is(x.stock(0, 0, 500), 500);
        is(x.stock(0, 0, 498), 998);
        fails(STATE, () -> x.stock(0, 0, 2));
        fails(ARGUMENT, () -> x.stock(0, 0, 501));
        is(x.stock(0, 0, 1), 999);
        fails(STATE, () -> x.stock(0, 0, 1));
        is(x.stock(0, 1, 1), 1);
        is(x.stock(1, 2, 7), 7);
        is(x.kitchen(0, 1), 999);
        is(x.kitchen(0, 2), 1);
        is(x.kitchen(0, 3), 0);
        is(x.kitchen(1, 3), 7);
        x.undo();
        is(x.kitchen(1, 3), 0);
    }

    private static void cook() {
        promise = "promise 7";
        UnitKitchens x = film();
        fails(INDEX, () -> x.cook(0, 0, 1));
        x.addKitchen(0);
        fails(STATE, () -> x.cook(0, 0, 1));
        x.stock(0, 0, 20);
        x.stock(0, 1, 9);
        x.stock(0, 2, 500);
        fails(INDEX, () -> x.cook(1, 5, 0));
        fails(INDEX, () -> x.cook(-1, 0, 1));
        fails(ARGUMENT, () -> x.cook(0, -1, 1));
        fails(ARGUMENT, () -> x.cook(0, 3, 1));
        fails(ARGUMENT, () -> x.cook(0, 0, 0));
        fails(ARGUMENT, () -> x.cook(0, 0, 301));
        fails(STATE, () -> x.cook(0, 0, 10));
        fails(STATE, () -> x.cook(0, 2, 5));
        fails(STATE, () -> x.cook(0, 1, 21));
        is(x.count(16), 6);
        is(x.cook(0, 0, 9), 2);
        is(x.kitchen(0, 1), 11);
        is(x.kitchen(0, 2), 0);
        is(x.kitchen(0, 3), 500);
        is(x.kitchen(0, 4), 0);
        is(x.kitchen(0, 5), 9);
        is(x.kitchen(0, 6), 0);
        fails(STATE, () -> x.cook(0, 1, 1));
        fails(ARGUMENT, () -> x.cook(0, 1, 301));
        x.pass(1);
        is(x.kitchen(0, 5), 4);
        is(x.kitchen(0, 6), 5);
        fails(STATE, () -> x.cook(0, 1, 1));
        x.pass(1);
        is(x.kitchen(0, 4), NONE);
        is(x.kitchen(0, 5), 0);
        is(x.kitchen(0, 6), 9);
        is(x.kitchen(0, 10), 9);
        is(x.cook(0, 1, 10), 2);
        is(x.kitchen(0, 1), 1);
        is(x.kitchen(0, 3), 490);
        x.undo();
        is(x.kitchen(0, 3), 500);
        x.set(4, 20);
        is(x.cook(0, 1, 11), 1);
        x.undo();
        x.set(4, 1);
        is(x.cook(0, 1, 11), 11);
        cookTheGreenDish();
    }

    private static void cookTheGreenDish() {
        UnitKitchens x = kitchenAndLorry();
        x.stock(0, 1, 499);
        fails(ARGUMENT, () -> x.cook(0, 2, 301));
        is(x.cook(0, 2, 300), 60);
        is(x.kitchen(0, 1), 500);
        is(x.kitchen(0, 2), 399);
        is(x.kitchen(0, 3), 500);
        x.pass(59);
        is(x.kitchen(0, 4), 2);
        is(x.kitchen(0, 5), 5);
        x.pass(1);
        is(x.kitchen(0, 4), NONE);
        x.set(4, 7);
        is(x.cook(0, 2, 15), 3);
        x.set(4, 20);
        x.pass(1);
        is(x.kitchen(0, 5), 0);
    }

    private static void load() {
        promise = "promise 8";
        UnitKitchens x = kitchenAndLorry();
        x.addLorry(1);
        cookAll(x, 0, 0, 5);
        cookAll(x, 0, 0, 5);
        cookAll(x, 0, 1, 4);
        fails(INDEX, () -> x.load(2, 0, 0, 1));
        fails(INDEX, () -> x.load(0, 1, 0, 1));
        fails(INDEX, () -> x.load(-1, 0, 7, 0));
        fails(INDEX, () -> x.load(0, -1, 0, 1));
        fails(ARGUMENT, () -> x.load(0, 0, 3, 1));
        fails(ARGUMENT, () -> x.load(0, 0, -1, 1));
        fails(ARGUMENT, () -> x.load(0, 0, 0, 0));
        fails(ARGUMENT, () -> x.load(0, 0, 0, 501));
        fails(STATE, () -> x.load(1, 0, 0, 1));
        fails(STATE, () -> x.load(0, 0, 0, 11));
        fails(STATE, () -> x.load(0, 0, 2, 1));
        is(x.load(0, 0, 0, 6), 6);
        // five of minute 1 and one of minute 2 are in the lorry now
        is(x.lorry(0, 3), 6);
        is(x.lorry(0, 6), 1);
        is(x.kitchen(0, 6), 4);
        is(x.kitchen(0, 9), 2);
        is(x.load(0, 0, 1, 4), 10);
        is(x.kitchen(0, 9), 2);
        is(x.lorry(0, 4), 4);
        x.undo();
        x.undo();
        is(x.count(11), 0);
        is(x.kitchen(0, 6), 10);
        is(x.kitchen(0, 7), 4);
        is(x.kitchen(0, 9), 1);
        x.set(5, 10);
        is(x.load(0, 0, 0, 10), 10);
        fails(STATE, () -> x.load(0, 0, 1, 1));
        x.set(5, 11);
        is(x.load(0, 0, 1, 1), 11);
        x.drive(0, 2);
        fails(STATE, () -> x.load(0, 0, 1, 1));
    }

    private static void unload() {
        promise = "promise 9";
        UnitKitchens x = kitchenAndLorry();
        x.addKitchen(2);
        fails(INDEX, () -> x.unload(1, 0));
        fails(INDEX, () -> x.unload(0, 2));
        fails(INDEX, () -> x.unload(-1, -1));
        fails(STATE, () -> x.unload(0, 1));
        is(x.count(16), 6);
        is(x.unload(0, 0), 0);
        cookAll(x, 0, 0, 5);
        cookAll(x, 0, 1, 5);
        cookAll(x, 0, 2, 5);
        x.load(0, 0, 0, 5);
        x.load(0, 0, 1, 4);
        x.load(0, 0, 2, 3);
        x.drive(0, 2);
        fails(STATE, () -> x.unload(0, 0));
        fails(STATE, () -> x.unload(0, 1));
        x.pass(1);
        fails(STATE, () -> x.unload(0, 0));
        is(x.unload(0, 1), 12);
        is(x.lorry(0, 6), NONE);
        is(x.count(11), 0);
        is(x.kitchen(1, 6), 5);
        is(x.kitchen(1, 7), 4);
        is(x.kitchen(1, 8), 3);
        is(x.kitchen(1, 9), 1);
        is(x.kitchen(1, 10), 0);
        is(x.kitchen(0, 9), 2);
        x.undo();
        is(x.count(11), 12);
    }

    private static void drive() {
        promise = "promise 10";
        UnitKitchens x = film();
        fails(INDEX, () -> x.drive(0, 1));
        for (int i = 0; i < 4; i++) {
            x.addLorry(0);
        }
        fails(INDEX, () -> x.drive(4, 1));
        fails(INDEX, () -> x.drive(-1, 1));
        fails(INDEX, () -> x.drive(0, 4));
        fails(INDEX, () -> x.drive(0, -1));
        fails(STATE, () -> x.drive(0, 0));
        is(x.drive(0, 1), 7);
        fails(STATE, () -> x.drive(0, 2));
        fails(STATE, () -> x.drive(0, 1));
        is(x.drive(1, 2), 1);
        x.set(0, 9);
        is(x.drive(2, 1), 7);
        x.undo();
        x.set(0, 8);
        is(x.drive(2, 1), 6);
        x.set(0, 50);
        is(x.drive(3, 3), 990);
        is(x.lorry(0, 2), 7);
        is(x.lorry(0, 0), NONE);
        is(x.lorry(0, 1), 1);
        x.pass(6);
        is(x.lorry(0, 2), 1);
        is(x.lorry(2, 0), 1);
        is(x.lorry(2, 1), NONE);
        x.pass(1);
        is(x.lorry(0, 0), 1);
        is(x.lorry(0, 1), NONE);
        is(x.lorry(0, 2), 0);
        is(x.lorry(1, 0), 2);
        x.set(0, 1);
        is(x.drive(0, 0), 1);
        x.undo();
        x.set(0, 10);
        is(x.drive(0, 3), 96 + 95);
        x.undo();
        x.undo();
        is(x.lorry(0, 0), 1);
        is(x.drive(1, 0), 1);
    }

    private static void addUnit() {
        promise = "promise 11";
        UnitKitchens x = film();
        fails(INDEX, () -> x.addUnit(4, 0, 0, 0, 0));
        fails(INDEX, () -> x.addUnit(-1, 1, 0, 1, 30));
        fails(ARGUMENT, () -> x.addUnit(0, 0, 0, 1, 30));
        fails(ARGUMENT, () -> x.addUnit(0, 301, 0, 1, 30));
        fails(ARGUMENT, () -> x.addUnit(0, 5, -1, 1, 30));
        fails(ARGUMENT, () -> x.addUnit(0, 5, 6, 1, 30));
        fails(ARGUMENT, () -> x.addUnit(0, 5, 5, 0, 30));
        fails(ARGUMENT, () -> x.addUnit(0, 5, 5, 601, 30));
        fails(ARGUMENT, () -> x.addUnit(0, 5, 5, 1, 29));
        fails(ARGUMENT, () -> x.addUnit(0, 5, 5, 1, 601));
        fails(ARGUMENT, () -> x.addUnit(0, MIN, MAX, MIN, MAX));
        is(x.count(16), 4);
        x.pass(10);
        is(x.addUnit(1, 300, 300, 600, 600), 0);
        int[] due = {0, 1, 300, 300, 610, 600, 0, 0, NONE, 0, 0, 0};
        for (int what = 0; what < 12; what++) {
            is(x.unit(0, what), due[what]);
        }
        is(x.addUnit(0, 1, 0, 1, 30), 1);
        is(x.unit(1, 4), 11);
        x.wrap(1);
        for (int i = 2; i < 12; i++) {
            is(x.addUnit(0, 1, 0, 1, 30), i);
        }
        fails(STATE, () -> x.addUnit(0, 1, 0, 1, 30));
        fails(ARGUMENT, () -> x.addUnit(0, 1, 2, 1, 30));
        fails(INDEX, () -> x.addUnit(4, 1, 0, 1, 30));
        is(x.count(3), 12);
        is(x.count(4), 11);
        x.undo();
        is(x.count(3), 11);
    }

    private static void split() {
        promise = "promise 12";
        UnitKitchens x = film();
        x.addUnit(1, 20, 8, 5, 45);
        x.pass(5);
        fails(INDEX, () -> x.split(1, 0, 0));
        fails(INDEX, () -> x.split(-1, 1, 0));
        fails(ARGUMENT, () -> x.split(0, 0, 0));
        fails(ARGUMENT, () -> x.split(0, 300, 0));
        fails(ARGUMENT, () -> x.split(0, 5, -1));
        fails(ARGUMENT, () -> x.split(0, 5, 6));
        fails(STATE, () -> x.split(0, 20, 8));
        fails(STATE, () -> x.split(0, 299, 0));
        fails(STATE, () -> x.split(0, 9, 9));
        fails(STATE, () -> x.split(0, 13, 0));
        is(x.count(16), 6);
        is(x.split(0, 10, 7), 1);
        int[] first = {0, 1, 10, 1, 50, 45, 8, 12, 5, 0, 0, 0};
        int[] second = {0, 1, 10, 7, 50, 45, 0, 0, NONE, 0, 0, 0};
        for (int what = 0; what < 12; what++) {
            is(x.unit(0, what), first[what]);
            is(x.unit(1, what), second[what]);
        }
        is(x.split(0, 9, 0), 2);
        fails(STATE, () -> x.split(0, 1, 1));
        x.undo();
        is(x.split(0, 9, 1), 2);
        is(x.unit(0, 3), 0);
        x.wrap(1);
        fails(STATE, () -> x.split(1, 1, 0));
        fails(ARGUMENT, () -> x.split(1, 0, 0));
        splitUpToTwelve();
    }

    private static void splitUpToTwelve() {
        UnitKitchens x = film();
        x.addUnit(0, 300, 0, 5, 45);
        is(x.split(0, 299, 0), 1);
        for (int i = 2; i < 12; i++) {
            is(x.split(1, 2, 0), i);
        }
        fails(STATE, () -> x.split(1, 2, 0));
        is(x.unit(1, 2), 279);
    }

    private static void join() {
        promise = "promise 13";
        UnitKitchens x = film();
        x.addUnit(1, 20, 8, 5, 45);
        x.addUnit(1, 30, 3, 7, 60);
        x.addUnit(0, 30, 3, 7, 60);
        x.addUnit(1, 251, 0, 500, 600);
        fails(INDEX, () -> x.join(0, 4));
        fails(INDEX, () -> x.join(4, 0));
        fails(INDEX, () -> x.join(4, 4));
        fails(INDEX, () -> x.join(-1, -1));
        fails(ARGUMENT, () -> x.join(1, 1));
        fails(STATE, () -> x.join(0, 2));
        x.pass(10);
        is(x.join(0, 1), 50);
        int[] first = {2, NONE, NONE, NONE, NONE, NONE, NONE, NONE, NONE, 0, 0, 0};
        int[] second = {0, 1, 50, 11, 67, 60, 11, 39, 5, 0, 0, 0};
        for (int what = 0; what < 12; what++) {
            is(x.unit(0, what), first[what]);
            is(x.unit(1, what), second[what]);
        }
        fails(STATE, () -> x.join(0, 1));
        fails(STATE, () -> x.join(1, 0));
        fails(ARGUMENT, () -> x.join(0, 0));
        fails(STATE, () -> x.join(1, 3));
        x.split(3, 1, 0);
        is(x.join(1, 3), 300);
        is(x.unit(3, 8), 5);
        is(x.unit(3, 4), 500);
        is(x.count(14), 0);
        is(x.count(13), 80);
        x.undo();
        is(x.unit(3, 8), NONE);
        // the other way round: the later minute comes to the earlier one, and none to some
        x.undo();
        x.undo();
        is(x.join(1, 0), 50);
        is(x.unit(0, 8), 5);
        is(x.unit(0, 4), 50);
        x.addUnit(1, 1, 1, 1, 30);
        is(x.join(4, 0), 51);
        is(x.unit(0, 8), 5);
        is(x.unit(0, 3), 12);
    }

    private static void move() {
        promise = "promise 14";
        UnitKitchens x = film();
        x.addUnit(1, 20, 8, 5, 45);
        x.addUnit(1, 20, 8, 5, 45);
        fails(INDEX, () -> x.move(2, 0));
        fails(INDEX, () -> x.move(-1, 0));
        fails(INDEX, () -> x.move(0, 4));
        fails(INDEX, () -> x.move(0, -1));
        is(x.count(16), 6);
        is(x.move(0, 3), 1);
        is(x.unit(0, 1), 3);
        is(x.move(0, 3), 3);
        is(x.place(3, 2), 1);
        is(x.place(1, 2), 1);
        x.wrap(0);
        fails(STATE, () -> x.move(0, 1));
        fails(INDEX, () -> x.move(0, 4));
        x.undo();
        x.undo();
        x.undo();
        is(x.unit(0, 1), 1);
    }

    private static void wrap() {
        promise = "promise 15";
        UnitKitchens x = film();
        x.addUnit(1, 20, 8, 5, 45);
        x.addUnit(1, 3, 0, 500, 45);
        fails(INDEX, () -> x.wrap(2));
        fails(INDEX, () -> x.wrap(-1));
        x.pass(30);
        is(x.unit(0, 10), 200);
        is(x.wrap(0), 20);
        int[] due = {1, NONE, NONE, NONE, NONE, NONE, NONE, NONE, NONE, 0, 200, 20};
        for (int what = 0; what < 12; what++) {
            is(x.unit(0, what), due[what]);
        }
        is(x.count(4), 1);
        is(x.count(5), 3);
        is(x.count(13), 0);
        is(x.count(14), 20);
        fails(STATE, () -> x.wrap(0));
        is(x.wrap(1), 0);
        x.pass(100);
        is(x.count(12), 20);
        is(x.count(15), 200);
        x.undo();
        x.undo();
        x.undo();
        is(x.unit(0, 6), 8);
        is(x.count(14), 0);
    }

    private static void pass() {
        promise = "promise 16";
        UnitKitchens x = film();
        fails(ARGUMENT, () -> x.pass(0));
        fails(ARGUMENT, () -> x.pass(201));
        fails(ARGUMENT, () -> x.pass(-1));
        fails(ARGUMENT, () -> x.pass(MAX));
        is(x.count(16), 4);
        for (int i = 0; i < 99; i++) {
            is(x.pass(200), 0);
        }
        x.pass(199);
        fails(STATE, () -> x.pass(2));
        fails(ARGUMENT, () -> x.pass(201));
        is(x.count(6), 19999);
        is(x.pass(1), 0);
        is(x.count(6), 20000);
        fails(STATE, () -> x.pass(1));
        x.undo();
        x.undo();
        is(x.count(6), 19800);
        // a meal is thrown away when it is older than setting 3, in lorries that drive too
        UnitKitchens y = kitchenAndLorry();
        y.set(4, 20);
        cookAll(y, 0, 0, 20);
        y.load(0, 0, 0, 7);
        y.drive(0, 3);
        y.pass(40);
        is(y.kitchen(0, 6), 13);
        is(y.lorry(0, 3), 7);
        is(y.pass(1), 0);
        is(y.kitchen(0, 6), 0);
        is(y.kitchen(0, 11), 13);
        is(y.lorry(0, 8), 7);
        is(y.count(9), 20);
        // a lower setting 3 throws away all at once, a higher one keeps up to 60 minutes
        y.set(3, 60);
        cookAll(y, 0, 0, 20);
        y.pass(30);
        cookAll(y, 0, 0, 20);
        y.pass(29);
        is(y.kitchen(0, 6), 40);
        y.pass(1);
        is(y.kitchen(0, 6), 20);
        y.set(3, 5);
        y.pass(1);
        is(y.kitchen(0, 6), 0);
        is(y.count(9), 60);
    }

    private static void passServes() {
        // out of lorries by number, then of kitchens; greens first, the meat dish for others, then the other dishes
        UnitKitchens x = kitchenAndLorry();
        x.addLorry(0);
        x.addKitchen(0);
        x.set(4, 20);
        cookAll(x, 0, 0, 10);
        cookAll(x, 0, 1, 10);
        cookAll(x, 0, 2, 10);
        x.load(0, 0, 0, 1);
        x.load(0, 0, 1, 2);
        x.load(1, 0, 0, 3);
        x.load(1, 0, 1, 1);
        x.addUnit(0, 10, 5, 1, 30);
        is(x.pass(1), 10);
        is(x.lorry(0, 7), 3);
        is(x.lorry(1, 7), 4);
        is(x.kitchen(0, 6), 5);
        is(x.kitchen(0, 7), 5);
        is(x.kitchen(0, 8), 10);
        is(x.unit(0, 9), 10);
        is(x.unit(0, 8), NONE);
        x.addUnit(0, 20, 1, 1, 30);
        is(x.pass(1), 20);
        // of the kitchen: dish 0 of an earlier minute for the green, 5 of the meat dish, 4 of dish 0, 10 of dish 2
        is(x.count(10), 0);
        // a unit with a lower number is served first, at its own place only
        UnitKitchens y = kitchenAndLorry();
        y.addUnit(1, 4, 4, 3, 30);
        y.addUnit(0, 4, 4, 3, 30);
        y.addUnit(0, 4, 4, 3, 30);
        y.cook(0, 2, 6);
        is(y.pass(2), 0);
        is(y.pass(1), 6);
        is(y.unit(0, 6), 4);
        is(y.unit(1, 6), 0);
        is(y.unit(2, 6), 2);
        is(y.unit(2, 8), 3);
        // the greens do not eat the meat dish
        UnitKitchens z = kitchenAndLorry();
        z.addUnit(0, 4, 3, 2, 30);
        z.cook(0, 1, 5);
        is(z.pass(2), 1);
        is(z.unit(0, 6), 3);
        is(z.unit(0, 7), 0);
        // in one minute dish 0 goes ahead of dish 2, and an earlier minute goes ahead of both
        UnitKitchens w = kitchenAndLorry();
        w.addKitchen(0);
        w.stock(1, 1, 100);
        w.cook(0, 0, 3);
        w.cook(1, 2, 3);
        w.pass(1);
        w.load(0, 0, 0, 3);
        w.load(0, 1, 2, 3);
        w.addUnit(0, 4, 2, 1, 30);
        w.pass(1);
        is(w.lorry(0, 3), 0);
        is(w.lorry(0, 5), 2);
        // a meal that is cooked in the minute of the call is served in it, and so is one that arrives in it
        UnitKitchens v = kitchenAndLorry();
        cookAll(v, 0, 0, 3);
        v.load(0, 0, 0, 3);
        v.addUnit(1, 3, 0, 7, 30);
        v.addUnit(0, 5, 0, 1, 30);
        v.cook(0, 1, 5);
        v.drive(0, 1);
        is(v.pass(1), 5);
        is(v.pass(5), 0);
        is(v.pass(1), 3);
        is(v.lorry(0, 7), 3);
    }

    private static void passPunishes() {
        UnitKitchens x = film();
        x.addUnit(0, 300, 0, 1, 30);
        x.set(2, 2);
        x.pass(16);
        is(x.unit(0, 10), 0);
        x.pass(1);
        is(x.unit(0, 10), 600);
        x.set(1, 16);
        x.pass(1);
        is(x.unit(0, 10), 1200);
        x.set(1, 18);
        x.pass(1);
        is(x.unit(0, 10), 1200);
        x.set(2, 0);
        x.set(1, 0);
        x.pass(1);
        is(x.unit(0, 10), 1200);
        x.set(2, 20);
        for (int i = 0; i < 6; i++) {
            x.pass(200);
        }
        is(x.unit(0, 10), 100000000);
        x.addUnit(1, 1, 0, 1, 30);
        is(x.ifPassed(2, 2), 20);
        x.pass(1);
        is(x.unit(1, 10), 0);
        x.pass(1);
        is(x.unit(1, 10), 20);
        is(x.count(15), 100000020);
    }

    private static void append() {
        promise = "promise 17";
        UnitKitchens x = new UnitKitchens();
        fails(ARGUMENT, () -> x.append(32));
        fails(ARGUMENT, () -> x.append(127));
        fails(ARGUMENT, () -> x.append(MIN));
        is(x.append(33), 1);
        is(x.append(126), 2);
        for (int i = 3; i <= 60; i++) {
            is(x.append('0'), i);
        }
        fails(STATE, () -> x.append('0'));
        fails(ARGUMENT, () -> x.append(32));
        is(x.count(16), 0);
        is(x.clearBuffer(), 60);
    }

    private static void clearBuffer() {
        promise = "promise 18";
        UnitKitchens x = typed("0:5");
        is(x.clearBuffer(), 3);
        is(x.clearBuffer(), 0);
        is(x.count(16), 4);
        is(x.firstError(), 0);
        is(x.append(':'), 1);
        is(x.firstError(), 0);
    }

    private static void firstError() {
        promise = "promise 19";
        error("", 0);
        error("0", 1);
        error("7:", 2);
        error("8:", 0);
        error("x", 0);
        error(",", 0);
        error("00", 1);
        error("0:0", 2);
        error("0::", 2);
        error("0:300", 5);
        error("0:301", 4);
        error("0:31", 4);
        error("0:310", 4);
        error("0:3000", 5);
        error("0:4g", 4);
        error("0:g", 2);
        error("0:@", 2);
        error("0:4+", 3);
        error("0:4,", 3);
        error("0:4g0", 5);
        error("0:4g00", 5);
        error("0:4g01", 5);
        error("0:4g300", 7);
        error("0:4g301", 6);
        error("0:4gg", 4);
        error("0:4g@", 4);
        error("0:4g9g", 5);
        error("0:4g0@", 6);
        error("0:4@0", 4);
        error("0:4@600", 7);
        error("0:4@601", 6);
        error("0:4@61", 6);
        error("0:4@610", 6);
        error("0:4@+", 4);
        error("0:4@1@", 5);
        error("0:4@1g", 5);
        error("0:4@1,", 5);
        error("0:4@1+", 6);
        error("0:4@1+0", 6);
        error("0:4@1+,", 6);
        error("0:4@1+3", 7);
        error("0:4@1+3,", 7);
        error("0:4@1+29", 8);
        error("0:4@1+29,", 8);
        error("0:4@1+299", 9);
        error("0:4@1+10", 8);
        error("0:4@1+100", 9);
        error("0:4@1+30,", 9);
        error("0:4@1+30,,", 9);
        error("0:4@1+30+", 8);
        error("0:4@1+30@", 8);
        error("0:4@1+600,", 10);
        error("0:4@1+601", 8);
        error("0:4@1+61", 8);
        error("0:4@1+610", 8);
        error("0:4@1+60,7:5g5@7+77", 19);
        error("0:4@1+60,8", 9);
        error("0:4@1+60,7:4@1+601", 17);
        error("0:4g9@1+60", 10);
        error("0:1@1+30,0:1@1+30,0:1@1+30,0:1@1+30,0:1@1+30,0:1@1+30,0:1@1+3", 60);
        error("0:4 ", 3);
    }

    private static void error(String text, int due) {
        UnitKitchens x = new UnitKitchens();
        for (int i = 0; i < text.length() && i < 60; i++) {
            if (text.charAt(i) >= 33) {
                x.append(text.charAt(i));
            }
        }
        is(x.firstError(), due);
        is(x.firstError(), due);
    }

    private static void addSheet() {
        promise = "promise 20";
        String[] faulty = {"", "0", "0:4", "0:4@1", "0:4@1+", "0:4@1+3", "0:4@1+29", "0:4@1+30,", "0:4@1+30,0", "9:4@1+30",
            "0:4g1", "0:4@1+30,0:4@1+2", "0:4@1+30x"};
        for (String text : faulty) {
            UnitKitchens x = typed(text);
            fails(ARGUMENT, x::addSheet);
            is(x.count(16), 4);
            is(x.count(3), 0);
            is(x.clearBuffer(), text.length());
        }
        UnitKitchens x = typed("0:4@1+30,1:300g300@600+600,3:12g0@45+123");
        x.pass(7);
        is(x.addSheet(), 3);
        int[][] due = {{0, 0, 4, 0, 8, 30}, {0, 1, 300, 300, 607, 600}, {0, 3, 12, 0, 52, 123}};
        for (int u = 0; u < 3; u++) {
            for (int what = 0; what < 6; what++) {
                is(x.unit(u, what), due[u][what]);
            }
        }
        is(x.clearBuffer(), 0);
        is(x.count(16), 6);
        is(x.undo(), 5);
        is(x.count(3), 0);
        is(x.clearBuffer(), 0);
        // up to the first one that addUnit() would refuse
        type(x, "0:4@1+30,4:1@1+30,0:4@1+30");
        is(x.addSheet(), 1);
        is(x.count(3), 1);
        type(x, "0:4@1+30,0:4g5@1+30,0:4@1+30");
        is(x.addSheet(), 1);
        type(x, "0:4g5@1+30,0:4@1+30");
        is(x.addSheet(), 0);
        is(x.clearBuffer(), 0);
        is(x.count(3), 2);
        is(x.undo(), 5);
        is(x.count(3), 2);
        x.undo();
        is(x.count(3), 1);
        for (int i = 0; i < 10; i++) {
            x.addUnit(0, 1, 0, 1, 30);
        }
        type(x, "0:4@1+30,0:5@1+30");
        is(x.addSheet(), 1);
        is(x.unit(11, 2), 4);
        type(x, "0:4@1+30");
        is(x.addSheet(), 0);
        type(x, "0:1@1+30,0:1@1+30,0:1@1+30,0:1@1+30,0:1@1+30,0:1@1+300,0:");
        fails(ARGUMENT, x::addSheet);
        UnitKitchens y = typed("0:1@1+30,0:1@1+30,0:1@1+30,0:1@1+30,0:1@1+30,0:1@1+30");
        is(y.addSheet(), 6);
    }

    private static void undo() {
        promise = "promise 21";
        UnitKitchens x = new UnitKitchens();
        fails(STATE, x::undo);
        for (int i = 0; i < 8; i++) {
            x.addPlace(i, i);
        }
        x.append('7');
        for (int i = 5; i >= 0; i--) {
            is(x.undo(), i);
            is(x.count(0), 2 + i);
            is(x.count(16), i);
        }
        fails(STATE, x::undo);
        is(x.count(0), 2);
        is(x.clearBuffer(), 1);
        undoOfEachCall();
        // what is thrown, and what only tells, saves nothing
        UnitKitchens y = kitchenAndLorry();
        y.addUnit(0, 5, 2, 1, 30);
        y.undo();
        long before = y.count(16);
        y.digest();
        y.ifPassed(200, 0);
        y.callsIn(5, 0);
        y.enoughGrace(9);
        y.append('1');
        y.firstError();
        y.clearBuffer();
        fails(INDEX, () -> y.move(9, 9));
        is(y.count(16), before);
        // old saved states are dropped first, and new ones take their room
        for (int round = 0; round < 3; round++) {
            for (int i = 0; i < 4; i++) {
                y.set(0, 10 + 4 * round + i);
            }
            y.undo();
            is(y.setting(0), 12 + 4 * round);
        }
    }

    private static void undoOfEachCall() {
        for (int call = 0; call < 15; call++) {
            UnitKitchens x = kitchenAndLorry();
            x.addUnit(1, 5, 2, 1, 30);
            x.addUnit(1, 5, 2, 1, 30);
            x.set(5, 100);
            cookAll(x, 0, 0, 3);
            x.load(0, 0, 0, 1);
            x.pass(17);
            if (call == 13) {
                // so that in the minutes meals are cooked, served and thrown away
                x.addUnit(0, 4, 2, 5, 30);
                x.cook(0, 1, 40);
            }
            is(x.count(16), 6);
            long before = look(x);
            type(x, call == 14 ? "0:4@1+30" : "");
            change(x, call);
            is(look(x) == before ? 1 : 0, 0);
            is(x.undo(), 5);
            // one more call that changes nothing fills the saved states again
            x.set(0, x.setting(0));
            is(x.count(16), 6);
            is(look(x), before);
        }
    }

    private static void change(UnitKitchens x, int call) {
        switch (call) {
            case 0 -> x.addPlace(7, 7);
            case 1 -> x.addKitchen(1);
            case 2 -> x.addLorry(1);
            case 3 -> x.set(1, 0);
            case 4 -> x.stock(0, 0, 5);
            case 5 -> x.cook(0, 1, 7);
            case 6 -> x.load(0, 0, 0, 1);
            case 7 -> x.unload(0, 0);
            case 8 -> x.drive(0, 3);
            case 9 -> x.addUnit(0, 9, 9, 9, 99);
            case 10 -> x.split(0, 2, 1);
            case 11 -> x.join(0, 1);
            case 12 -> x.move(0, 0);
            case 13 -> x.pass(200);
            default -> x.addSheet();
        }
    }

    private static void place() {
        promise = "promise 22";
        UnitKitchens x = kitchenAndLorry();
        x.addKitchen(0);
        x.addKitchen(1);
        x.addLorry(0);
        x.addLorry(3);
        x.addUnit(0, 9, 4, 90, 30);
        x.addUnit(0, 8, 4, 91, 30);
        x.addUnit(3, 7, 3, 2, 30);
        x.addUnit(3, 7, 3, 2, 30);
        x.wrap(3);
        cookAll(x, 0, 1, 10);
        x.load(0, 0, 1, 3);
        x.load(1, 0, 1, 2);
        x.cook(0, 0, 5);
        x.drive(1, 1);
        int[][] due = {{0, 0, 2, 2, 1, 8, 0}, {3, 4, 0, 1, 0, 0, 0}, {0, 0, 0, 0, 0, 0, 0}, {99, 99, 1, 0, 1, 0, 7}};
        for (int p = 0; p < 4; p++) {
            for (int what = 0; what < 7; what++) {
                is(x.place(p, what), due[p][what]);
            }
        }
        x.pass(7);
        is(x.place(1, 4), 1);
        is(x.place(1, 5), 2);
        is(x.place(0, 5), 13);
        fails(INDEX, () -> x.place(4, 0));
        fails(INDEX, () -> x.place(-1, 9));
        fails(ARGUMENT, () -> x.place(0, -1));
        fails(ARGUMENT, () -> x.place(0, 7));
        fails(ARGUMENT, () -> x.place(0, MAX));
    }

    private static void unit() {
        promise = "promise 23";
        UnitKitchens x = kitchenAndLorry();
        x.cook(0, 2, 3);
        x.addUnit(0, 9, 5, 1, 30);
        x.addUnit(0, 2, 1, 500, 30);
        x.addUnit(0, 2, 1, 500, 30);
        x.pass(20);
        int[] due = {0, 0, 9, 5, 31, 30, 2, 4, 1, 3, 24, 0};
        for (int what = 0; what < 12; what++) {
            is(x.unit(0, what), due[what]);
        }
        x.join(1, 2);
        x.wrap(0);
        int[] wrapped = {1, NONE, NONE, NONE, NONE, NONE, NONE, NONE, NONE, 3, 24, 6};
        int[] joined = {2, NONE, NONE, NONE, NONE, NONE, NONE, NONE, NONE, 0, 0, 0};
        for (int what = 0; what < 12; what++) {
            is(x.unit(0, what), wrapped[what]);
            is(x.unit(1, what), joined[what]);
        }
        fails(INDEX, () -> x.unit(3, 0));
        fails(INDEX, () -> x.unit(-1, 99));
        fails(ARGUMENT, () -> x.unit(0, -1));
        fails(ARGUMENT, () -> x.unit(0, 12));
        // a second call does not change since when meals are owed
        UnitKitchens y = film();
        y.addUnit(0, 9, 5, 1, 30);
        y.pass(31);
        is(y.unit(0, 6), 10);
        is(y.unit(0, 7), 8);
        is(y.unit(0, 8), 1);
        is(y.unit(0, 4), 61);
    }

    private static void kitchen() {
        promise = "promise 24";
        UnitKitchens x = kitchenAndLorry();
        x.addKitchen(3);
        is(x.kitchen(1, 0), 3);
        is(x.kitchen(1, 4), NONE);
        is(x.kitchen(1, 9), NONE);
        x.stock(0, 0, 1);
        x.stock(0, 2, 2);
        x.pass(5);
        x.cook(0, 2, 7);
        x.pass(1);
        int[] due = {0, 501, 486, 502, 2, 2, 0, 0, 5, 6, 5, 0};
        for (int what = 0; what < 12; what++) {
            is(x.kitchen(0, what), due[what]);
        }
        x.pass(40);
        is(x.kitchen(0, 9), 6);
        x.pass(1);
        is(x.kitchen(0, 8), 2);
        is(x.kitchen(0, 9), 7);
        x.load(0, 0, 2, 1);
        is(x.kitchen(0, 9), 7);
        is(x.lorry(0, 6), 7);
        x.undo();
        is(x.kitchen(0, 10), 7);
        is(x.kitchen(0, 11), 5);
        x.pass(1);
        is(x.kitchen(0, 9), NONE);
        is(x.kitchen(0, 11), 7);
        fails(INDEX, () -> x.kitchen(2, 0));
        fails(INDEX, () -> x.kitchen(-1, 12));
        fails(ARGUMENT, () -> x.kitchen(0, 12));
        fails(ARGUMENT, () -> x.kitchen(0, -1));
    }

    private static void lorry() {
        promise = "promise 25";
        UnitKitchens x = kitchenAndLorry();
        x.set(4, 20);
        int[] made = {0, 1, 2};
        for (int dish : made) {
            cookAll(x, 0, dish, 4 + dish);
            x.load(0, 0, dish, 3 + dish);
        }
        int[] stands = {0, NONE, 0, 3, 4, 5, 1, 0, 0};
        for (int what = 0; what < 9; what++) {
            is(x.lorry(0, what), stands[what]);
        }
        x.drive(0, 1);
        x.pass(2);
        int[] drives = {NONE, 1, 5, 3, 4, 5, 1, 0, 0};
        for (int what = 0; what < 9; what++) {
            is(x.lorry(0, what), drives[what]);
        }
        x.addUnit(1, 6, 2, 6, 30);
        x.pass(6);
        int[] served = {1, NONE, 0, 1, 0, 5, 1, 6, 0};
        for (int what = 0; what < 9; what++) {
            is(x.lorry(0, what), served[what]);
        }
        x.set(3, 5);
        x.pass(1);
        is(x.lorry(0, 6), NONE);
        is(x.lorry(0, 8), 6);
        fails(INDEX, () -> x.lorry(1, 0));
        fails(INDEX, () -> x.lorry(-1, 9));
        fails(ARGUMENT, () -> x.lorry(0, 9));
        fails(ARGUMENT, () -> x.lorry(0, -1));
    }

    private static void count() {
        promise = "promise 26";
        UnitKitchens x = kitchenAndLorry();
        x.addUnit(0, 9, 4, 3, 30);
        x.addUnit(1, 8, 4, 4, 30);
        x.addUnit(3, 7, 3, 5, 30);
        x.addUnit(3, 6, 3, 6, 30);
        cookAll(x, 0, 0, 15);
        x.cook(0, 1, 11);
        is(x.count(8), 9);
        x.load(0, 0, 0, 4);
        x.pass(2);
        int[] first = {4, 1, 1, 4, 4, 30, 5, 25, 9, 0, 12, 4, 24, 15, 0, 0, 6};
        for (int what = 0; what < 17; what++) {
            is(x.count(what), first[what]);
        }
        x.pass(30);
        x.wrap(1);
        x.join(2, 3);
        x.undo();
        x.undo();
        x.wrap(1);
        x.pass(20);
        int[] then = {4, 1, 1, 4, 3, 22, 55, 26, 18, 8, 0, 0, 60, 26, 16, x.count(15), 6};
        for (int what = 0; what < 17; what++) {
            is(x.count(what), then[what]);
        }
        is(x.count(15), x.unit(0, 10) + x.unit(1, 10) + x.unit(2, 10) + x.unit(3, 10));
        x.wrap(0);
        is(x.count(14), 16 + x.unit(0, 11));
        is(x.unit(0, 11) + x.count(13), 26);
        // as much of all as there can be
        UnitKitchens y = film();
        for (int i = 0; i < 4; i++) {
            y.addPlace(9, 9);
            y.addLorry(0);
        }
        for (int i = 0; i < 3; i++) {
            y.addKitchen(0);
        }
        for (int i = 0; i < 12; i++) {
            y.addUnit(0, 300, 1, 1, 30);
        }
        y.pass(31);
        is(y.digest(), listed(y, ""));
        int[] full = {8, 3, 4, 12, 12, 3600, 31, 0, 0, 0, 0, 0, 7200, 7200, 0, 3600 * 14 + 7200, 6};
        for (int what = 0; what < 17; what++) {
            is(y.count(what), full[what]);
        }
        int[] there = {0, 0, 12, 3, 4, 0, 7200};
        for (int what = 0; what < 7; what++) {
            is(y.place(0, what), there[what]);
        }
        fails(ARGUMENT, () -> x.count(-1));
        fails(ARGUMENT, () -> x.count(17));
        fails(ARGUMENT, () -> x.count(MIN));
    }

    private static void setting() {
        promise = "promise 27";
        UnitKitchens x = new UnitKitchens();
        for (int i = 0; i < 6; i++) {
            x.set(i, 11 + i);
        }
        for (int i = 0; i < 6; i++) {
            is(x.setting(i), 11 + i);
        }
        fails(INDEX, () -> x.setting(-1));
        fails(INDEX, () -> x.setting(6));
        fails(INDEX, () -> x.setting(MAX));
    }

    private static void ifPassed() {
        promise = "promise 28";
        UnitKitchens x = kitchenAndLorry();
        x.set(2, 3);
        x.addUnit(0, 9, 4, 3, 600);
        x.addUnit(1, 8, 4, 4, 600);
        x.cook(0, 0, 15);
        long before = look(x);
        is(x.ifPassed(2, 0), 0);
        is(x.ifPassed(3, 0), 9);
        is(x.ifPassed(41, 1), 0);
        is(x.ifPassed(42, 1), 0);
        is(x.ifPassed(43, 1), 1);
        is(x.ifPassed(44, 1), 6);
        is(x.ifPassed(19, 2), 0);
        is(x.ifPassed(20, 2), 24);
        is(x.ifPassed(22, 2), 72);
        is(x.ifPassed(3, 3), 0);
        is(x.ifPassed(4, 3), 8);
        is(look(x), before);
        is(x.count(16), 6);
        fails(ARGUMENT, () -> x.ifPassed(0, 0));
        fails(ARGUMENT, () -> x.ifPassed(201, 0));
        fails(ARGUMENT, () -> x.ifPassed(1, -1));
        fails(ARGUMENT, () -> x.ifPassed(1, 4));
        x.pass(43);
        is(x.count(9), 1);
        is(x.ifPassed(1, 1), 5);
        x.undo();
        x.pass(50);
        is(x.ifPassed(1, 2), 24);
        is(x.ifPassed(1, 0), 0);
        is(x.ifPassed(200, 3), 8);
        for (int i = 0; i < 99; i++) {
            x.pass(200);
        }
        x.pass(150);
        fails(STATE, () -> x.pass(1));
        is(x.ifPassed(1, 2) > 0 ? 1 : 0, 1);
        is(x.count(6), 20000);
    }

    private static void callsIn() {
        promise = "promise 29";
        UnitKitchens x = film();
        is(x.callsIn(1000, 0), 0);
        x.addUnit(0, 9, 4, 3, 30);
        x.addUnit(1, 8, 1, 600, 600);
        is(x.callsIn(1, 0), 0);
        is(x.callsIn(2, 0), 0);
        is(x.callsIn(3, 0), 4);
        is(x.callsIn(3, 1), 5);
        is(x.callsIn(32, 0), 4);
        is(x.callsIn(33, 0), 8);
        is(x.callsIn(599, 1), 100);
        is(x.callsIn(600, 1), 107);
        is(x.callsIn(1000, 0), 34 * 4 + 1);
        x.pass(3);
        is(x.callsIn(29, 0), 0);
        is(x.callsIn(30, 1), 5);
        is(x.count(12), 9);
        x.wrap(0);
        is(x.callsIn(1000, 0), 1);
        x.split(1, 3, 1);
        is(x.callsIn(1000, 0), 1);
        is(x.callsIn(1000, 1), 7);
        x.join(1, 2);
        is(x.callsIn(1000, 1), 7);
        fails(ARGUMENT, () -> x.callsIn(0, 0));
        fails(ARGUMENT, () -> x.callsIn(1001, 0));
        fails(ARGUMENT, () -> x.callsIn(1, -1));
        fails(ARGUMENT, () -> x.callsIn(1, 2));
    }

    private static void canCook() {
        promise = "promise 30";
        UnitKitchens x = film();
        fails(INDEX, () -> x.canCook(0, 0));
        x.addKitchen(0);
        is(x.canCook(0, 0) + x.canCook(0, 1) + x.canCook(0, 2), 0);
        x.stock(0, 0, 10);
        is(x.canCook(0, 0), 0);
        is(x.canCook(0, 1), 0);
        x.stock(0, 1, 7);
        is(x.canCook(0, 0), 7);
        is(x.canCook(0, 2), 3);
        x.stock(0, 2, 20);
        is(x.canCook(0, 1), 10);
        x.cook(0, 1, 4);
        is(x.canCook(0, 1), 6);
        is(x.canCook(0, 0), 6);
        for (int what = 0; what < 3; what++) {
            x.stock(0, what, 400);
        }
        is(x.canCook(0, 0), 300);
        is(x.canCook(0, 1), 300);
        is(x.canCook(0, 2), 203);
        x.stock(0, 1, 500);
        is(x.canCook(0, 2), 300);
        fails(INDEX, () -> x.canCook(1, 9));
        fails(INDEX, () -> x.canCook(-1, 0));
        fails(ARGUMENT, () -> x.canCook(0, -1));
        fails(ARGUMENT, () -> x.canCook(0, 3));
    }

    private static void bestLorry() {
        promise = "promise 31";
        UnitKitchens x = kitchenAndLorry();
        fails(INDEX, () -> x.bestLorry(0));
        x.addLorry(0);
        x.addLorry(0);
        x.addLorry(3);
        x.addUnit(1, 5, 5, 500, 30);
        x.addUnit(1, 5, 4, 500, 30);
        fails(INDEX, () -> x.bestLorry(2));
        fails(INDEX, () -> x.bestLorry(-1));
        is(x.bestLorry(0), NONE);
        x.set(4, 20);
        cookAll(x, 0, 0, 20);
        cookAll(x, 0, 1, 20);
        x.load(0, 0, 1, 1);
        is(x.bestLorry(0), NONE);
        is(x.bestLorry(1), 0);
        x.load(1, 0, 0, 2);
        is(x.bestLorry(0), 1);
        is(x.bestLorry(1), 1);
        x.load(2, 0, 0, 2);
        is(x.bestLorry(0), 1);
        x.load(2, 0, 1, 1);
        is(x.bestLorry(0), 1);
        is(x.bestLorry(1), 2);
        // one that drives: the rest of its drive, and from there on
        x.drive(2, 2);
        is(x.bestLorry(1), 1);
        x.drive(1, 1);
        is(x.bestLorry(1), 1);
        x.pass(1);
        is(x.bestLorry(0), 1);
        x.pass(6);
        x.drive(0, 1);
        is(x.bestLorry(0), 1);
        x.drive(1, 0);
        x.pass(1);
        // lorry 1 is 6 minutes off place 0, from which it takes 7 more; lorry 2 stands at place 2
        is(x.bestLorry(0), 2);
        is(x.bestLorry(1), 0);
        x.move(0, 0);
        is(x.bestLorry(0), 2);
        x.wrap(1);
        is(x.bestLorry(1), NONE);
    }

    private static void enoughGrace() {
        promise = "promise 32";
        UnitKitchens x = film();
        fails(ARGUMENT, () -> x.enoughGrace(0));
        fails(ARGUMENT, () -> x.enoughGrace(201));
        fails(ARGUMENT, () -> x.enoughGrace(-1));
        is(x.enoughGrace(200), 0);
        x.addUnit(0, 5, 1, 10, 600);
        is(x.enoughGrace(9), 0);
        is(x.enoughGrace(10), 0);
        is(x.enoughGrace(11), 1);
        is(x.enoughGrace(130), 120);
        is(x.enoughGrace(131), NONE);
        is(x.enoughGrace(200), NONE);
        x.set(2, 0);
        is(x.enoughGrace(200), 0);
        x.set(2, 20);
        x.set(1, 0);
        x.pass(30);
        is(x.enoughGrace(1), 21);
        is(x.count(15), 5 * 20 * 20);
        is(x.setting(1), 0);
        // a penalty that has come to its end does not grow
        UnitKitchens y = film();
        y.set(2, 20);
        y.set(1, 0);
        y.addUnit(0, 300, 0, 1, 30);
        for (int i = 0; i < 6; i++) {
            y.pass(200);
        }
        is(y.unit(0, 10), 100000000);
        is(y.enoughGrace(200), 0);
        y.addUnit(0, 300, 0, 1, 30);
        is(y.enoughGrace(1), 0);
        is(y.enoughGrace(6), 5);
        // meals that are served in time need no grace
        UnitKitchens z = kitchenAndLorry();
        z.addUnit(0, 10, 0, 1, 600);
        z.cook(0, 1, 10);
        is(z.enoughGrace(200), 0);
        z.undo();
        z.set(4, 1);
        z.cook(0, 1, 10);
        is(z.enoughGrace(200), 8);
    }

    private static void servedShare() {
        promise = "promise 33";
        UnitKitchens x = kitchenAndLorry();
        share(x::servedShare, 0.0);
        x.addUnit(0, 7, 0, 1, 600);
        x.cook(0, 1, 3);
        share(x::servedShare, 0.0);
        x.pass(1);
        share(x::servedShare, 3.0 / 7.0);
        x.cook(0, 1, 4);
        x.pass(1);
        share(x::servedShare, 1.0);
        x.addUnit(1, 3, 0, 1, 600);
        x.pass(1);
        share(x::servedShare, 0.7);
        x.wrap(1);
        share(x::servedShare, 0.7);
    }

    private static void share(DoubleSupplier call, double due) {
        is(Double.doubleToRawLongBits(call.getAsDouble()), Double.doubleToRawLongBits(due));
    }

    private static void digest() {
        promise = "promise 34";
        // by the document's list: 17 counts, 6 settings, 4 forecasts, 2 calls, the grace, the share, the length
        long hash = 2389;
        long[] fresh = new long[17 + 6 + 4 + 2 + 1 + 1 + 1];
        long[] settings = {10, 15, 1, 40, 5, 120};
        System.arraycopy(settings, 0, fresh, 17, 6);
        for (long value : fresh) {
            hash = 31 * hash + value;
        }
        is(new UnitKitchens().digest(), hash);
        UnitKitchens x = cookingForTwo();
        is(x.digest(), listed(x, ""));
        x.pass(3);
        x.load(0, 0, 0, 2);
        is(x.digest(), listed(x, ""));
        UnitKitchens w = cookingForTwo();
        w.pass(3);
        w.load(0, 0, 0, 2);
        w.drive(0, 1);
        type(w, "0:5~!");
        is(w.digest(), listed(w, "0:5~!"));
        w.pass(50);
        w.undo();
        w.undo();
        is(w.digest(), listed(w, "0:5~!"));
        is(w.digest(), w.digest());
        // a share of 1.0, and the least shares
        for (int many = 0; many < 10; many++) {
            UnitKitchens z = kitchenAndLorry();
            z.addUnit(0, 1, 0, 1, 600);
            z.cook(0, 0, 1);
            z.pass(1);
            for (int i = 0; i < many; i++) {
                z.addUnit(1, 300, 0, 1, 30);
                z.pass(100);
            }
            is(z.digest(), listed(z, ""));
        }
        // calls of the next 120 minutes are in it, later ones are not
        UnitKitchens y = film();
        y.addUnit(0, 7, 3, 120, 600);
        is(y.digest(), listed(y, ""));
        y.undo();
        y.addUnit(0, 7, 3, 121, 600);
        is(y.digest(), listed(y, ""));
    }

    /** Two units work, one has wrapped; a kitchen cooks, and a lorry stands at each of two places. */
    private static UnitKitchens cookingForTwo() {
        UnitKitchens x = kitchenAndLorry();
        x.addLorry(3);
        x.addUnit(0, 7, 0, 1, 60);
        x.addUnit(1, 9, 3, 2, 70);
        x.addUnit(1, 9, 3, 2, 70);
        x.wrap(2);
        x.cook(0, 0, 30);
        return x;
    }

    private static long listed(UnitKitchens x, String buffer) {
        long[] hash = {2389};
        for (int i = 0; i < 17; i++) {
            add(hash, x.count(i));
        }
        for (int i = 0; i < 6; i++) {
            add(hash, x.setting(i));
        }
        for (int p = 0; p < x.count(0); p++) {
            for (int i = 0; i < 7; i++) {
                add(hash, x.place(p, i));
            }
        }
        for (int u = 0; u < x.count(3); u++) {
            for (int i = 0; i < 12; i++) {
                add(hash, x.unit(u, i));
            }
            add(hash, x.bestLorry(u));
        }
        for (int k = 0; k < x.count(1); k++) {
            for (int i = 0; i < 12; i++) {
                add(hash, x.kitchen(k, i));
            }
            for (int i = 0; i < 3; i++) {
                add(hash, x.canCook(k, i));
            }
        }
        for (int l = 0; l < x.count(2); l++) {
            for (int i = 0; i < 9; i++) {
                add(hash, x.lorry(l, i));
            }
        }
        for (int i = 0; i < 4; i++) {
            add(hash, x.ifPassed(30, i));
        }
        add(hash, x.callsIn(120, 0));
        add(hash, x.callsIn(120, 1));
        add(hash, x.enoughGrace(20));
        add(hash, Double.doubleToLongBits(x.servedShare()));
        add(hash, buffer.length());
        for (int i = 0; i < buffer.length(); i++) {
            add(hash, buffer.charAt(i));
        }
        return hash[0];
    }

    private static void add(long[] hash, long value) {
        hash[0] = 31 * hash[0] + value;
    }
}
