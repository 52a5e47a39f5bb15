import java.io.IOException;
import java.lang.management.ManagementFactory;
import java.lang.reflect.Array;
import java.lang.reflect.Constructor;
import java.lang.reflect.Field;
import java.lang.reflect.InvocationTargetException;
import java.lang.reflect.Method;
import java.lang.reflect.Modifier;
import java.nio.file.Files;
import java.nio.file.Path;
import java.util.ArrayDeque;
import java.util.ArrayList;
import java.util.Arrays;
import java.util.Collections;
import java.util.Comparator;
import java.util.Deque;
import java.util.HashSet;
import java.util.IdentityHashMap;
import java.util.List;
import java.util.Random;
import java.util.Set;
import java.util.TreeSet;
import java.util.regex.Matcher;
import java.util.regex.Pattern;

/** The face of the class, the rules of ../shared/LANGUAGE.md that a text or the machine can tell, and the room. */
public final class UnitKitchensRulesTest {
    private static final String[] FACE = {
        "int addPlace(int,int)", "int addKitchen(int)", "int addLorry(int)", "int set(int,int)", "int stock(int,int,int)",
        "int cook(int,int,int)", "int load(int,int,int,int)", "int unload(int,int)", "int drive(int,int)",
        "int addUnit(int,int,int,int,int)", "int split(int,int,int)", "int join(int,int)", "int move(int,int)",
        "int wrap(int)", "int pass(int)", "int append(int)", "int clearBuffer()", "int firstError()", "int addSheet()",
        "int undo()", "int place(int,int)", "int unit(int,int)", "int kitchen(int,int)", "int lorry(int,int)",
        "int count(int)", "int setting(int)", "int ifPassed(int,int)", "int callsIn(int,int)", "int canCook(int,int)",
        "int bestLorry(int)", "int enoughGrace(int)", "double servedShare()", "long digest()"};
    /** What LANGUAGE.md rules out and a text shows. */
    private static final String[] RULED_OUT = {"->", "::", "import ", "package ", "synchronized", "assert ", "finally",
        "try ", "catch ", "Exact(", "System.out", "System.nano", "System.current", "Thread", "static {", ".equals(",
        "hashCode", "toString", "Object", "Double.", "Float."};
    private static final int MOST_LINES = 60;
    private static final int MOST_PARAMETERS = 7;
    private static final int MOST_CLASSES = 12;
    private static final int MOST_FIELDS = 20;
    /** What a new object may hold: 512 of them would still fit into the room of all calls of a run. */
    private static final int MOST_OBJECTS = 1000;
    private static final int MOST_CELLS = 14000;
    private static final int MOST_BYTES = 100000;

    private static final Pattern METHOD_OF_DOCUMENT = Pattern.compile(" {4}public \\w+ (\\w+)\\(.*\\)( throws (.*))?;");
    private static final int RUNS = 40;
    /** Beyond the 512th call answers are free, but no call may throw by itself even then. */
    private static final int CALLS_A_RUN = 5000;

    private static int wrong = 0;

    public static void main(String[] args) throws Exception {
        face();
        classes();
        source();
        room();
        callsMakeNothing();
        throwsClauses();
        onlyNamedExceptions();
        System.out.println(wrong == 0 ? "the rules are kept" : wrong + " rules are broken");
        if (wrong != 0) {
            System.exit(1);
        }
    }

    private static void holds(boolean holds, String what) {
        if (!holds) {
            wrong++;
            System.out.println("broken: " + what);
        }
    }

    private static void face() throws Exception {
        Class<?> type = UnitKitchens.class;
        holds(Modifier.isPublic(type.getModifiers()) && Modifier.isFinal(type.getModifiers()), "public and final");
        Set<String> found = new TreeSet<>();
        Set<String> privateNames = new HashSet<>();
        Set<String> publicNames = new HashSet<>();
        for (Method m : type.getDeclaredMethods()) {
            if (Modifier.isPrivate(m.getModifiers())) {
                privateNames.add(m.getName());
                continue;
            }
            holds(Modifier.isPublic(m.getModifiers()) && !Modifier.isStatic(m.getModifiers()), "public: " + m);
            publicNames.add(m.getName());
            List<String> parameters = new ArrayList<>();
            for (Class<?> parameter : m.getParameterTypes()) {
                parameters.add(parameter.getName());
            }
            found.add(m.getReturnType().getName() + " " + m.getName() + "(" + String.join(",", parameters) + ")");
        }
        holds(found.equals(new TreeSet<>(List.of(FACE))), "the methods of the face: " + found);
        holds(Collections.disjoint(privateNames, publicNames), "no private method bears the name of a public one");
        Constructor<?>[] constructors = type.getDeclaredConstructors();
        holds(constructors.length == 1 && constructors[0].getParameterCount() == 0
                && Modifier.isPublic(constructors[0].getModifiers()), "one public constructor");
        for (Field f : type.getDeclaredFields()) {
            holds(Modifier.isPrivate(f.getModifiers()) || f.getName().equals("NONE"), "private: " + f);
        }
        Field none = type.getField("NONE");
        holds(none.toString().equals("public static final int UnitKitchens.NONE") && none.getInt(null) == -1, "NONE");
    }

    private static void classes() {
        Class<?>[] inside = UnitKitchens.class.getDeclaredClasses();
        holds(inside.length < MOST_CLASSES, "some twelve classes");
        Set<String> faceNames = new HashSet<>();
        for (Method m : UnitKitchens.class.getMethods()) {
            faceNames.add(m.getName());
        }
        for (Class<?> type : inside) {
            int modifiers = type.getModifiers();
            holds(!Modifier.isPublic(modifiers) && !Modifier.isProtected(modifiers) && Modifier.isStatic(modifiers),
                    "private or package-visible and static: " + type);
            for (Method m : type.getDeclaredMethods()) {
                holds(!faceNames.contains(m.getName()), "a name of the face: " + m);
                holds(m.getParameterCount() <= MOST_PARAMETERS, "at most seven parameters: " + m);
            }
            checkFields(type);
        }
        checkFields(UnitKitchens.class);
    }

    private static void checkFields(Class<?> type) {
        int fields = 0;
        for (Field f : type.getDeclaredFields()) {
            if (Modifier.isStatic(f.getModifiers())) {
                holds(Modifier.isFinal(f.getModifiers()), "static fields are final: " + f);
                Class<?> t = f.getType();
                holds(t == int.class || t == long.class || t == boolean.class || t == char.class || t == String.class
                        || t == int[].class, "the type of a constant: " + f);
            } else {
                fields++;
            }
        }
        holds(fields <= MOST_FIELDS, "some twenty fields: " + type);
    }

    private static void source() throws IOException {
        List<String> lines = Files.readAllLines(Path.of("src/main/java/UnitKitchens.java"));
        int begin = -1;
        for (int i = 0; i < lines.size(); i++) {
            String line = lines.get(i);
            holds(line.chars().allMatch(c -> c >= 32 && c < 127), "signs of line " + (i + 1));
            String code = line.trim().startsWith("*") || line.trim().startsWith("/") ? "" : line;
            for (String word : RULED_OUT) {
                holds(!code.contains(word), word.trim() + " in line " + (i + 1));
            }
            boolean opens = code.matches("( {4}| {8})\\w.*\\) ?(throws .*)?\\{") || code.matches(" {12}throws .*\\{");
            boolean statement = code.trim().matches("(if|for|while|switch|else|do)\\b.*");
            if (opens && !statement) {
                begin = i;
            }
            if (begin >= 0 && code.matches("( {4}| {8})\\}")) {
                holds(i - begin < MOST_LINES, "the method that ends in line " + (i + 1) + " is too long");
            }
        }
    }

    private static void room() throws IllegalAccessException {
        Set<Object> seen = Collections.newSetFromMap(new IdentityHashMap<>());
        Deque<Object> left = new ArrayDeque<>();
        left.add(new UnitKitchens());
        int cells = 0;
        while (!left.isEmpty()) {
            Object next = left.remove();
            if (!seen.add(next)) {
                continue;
            }
            Class<?> type = next.getClass();
            if (type.isArray()) {
                cells += Array.getLength(next);
                for (int i = 0; next instanceof Object[] && i < Array.getLength(next); i++) {
                    left.add(Array.get(next, i));
                }
                continue;
            }
            for (Field f : type.getDeclaredFields()) {
                if (!Modifier.isStatic(f.getModifiers())) {
                    cells++;
                    f.setAccessible(true);
                    if (!f.getType().isPrimitive() && f.get(next) != null) {
                        left.add(f.get(next));
                    }
                }
            }
        }
        holds(seen.size() <= MOST_OBJECTS, "objects of a new film: " + seen.size());
        holds(cells <= MOST_CELLS, "fields and elements of a new film: " + cells);
    }

    /** After the constructor no call makes anything, but for exceptions: everything is used again. */
    private static void callsMakeNothing() {
        manyCalls(new UnitKitchens());
        UnitKitchens x = new UnitKitchens();
        com.sun.management.ThreadMXBean bean = (com.sun.management.ThreadMXBean) ManagementFactory.getThreadMXBean();
        long before = bean.getThreadAllocatedBytes(Thread.currentThread().getId());
        manyCalls(x);
        long made = bean.getThreadAllocatedBytes(Thread.currentThread().getId()) - before;
        holds(made < MOST_BYTES, "bytes that calls make: " + made);
    }

    private static void manyCalls(UnitKitchens x) {
        x.addPlace(0, 0);
        x.addPlace(9, 9);
        x.addKitchen(0);
        x.addLorry(0);
        x.addUnit(0, 100, 50, 1, 30);
        x.addUnit(1, 100, 50, 1, 30);
        x.stock(0, 0, 500);
        x.stock(0, 1, 500);
        x.cook(0, 0, 300);
        for (int i = 0; i < 100; i++) {
            x.pass(3);
            x.ifPassed(200, i % 4);
            x.enoughGrace(200);
            x.digest();
            x.append('0');
            x.firstError();
            x.clearBuffer();
            x.undo();
            x.callsIn(1000, 0);
            x.bestLorry(0);
        }
    }

    /** Each method declares the exceptions that the document's face declares, in its order. */
    private static void throwsClauses() throws IOException {
        int found = 0;
        for (String line : Files.readAllLines(Path.of("../shared/DOC.md"))) {
            Matcher matcher = METHOD_OF_DOCUMENT.matcher(line);
            if (!matcher.matches()) {
                continue;
            }
            found++;
            String due = matcher.group(3) == null ? "" : matcher.group(3);
            for (Method m : UnitKitchens.class.getMethods()) {
                if (m.getName().equals(matcher.group(1))) {
                    List<String> declared = new ArrayList<>();
                    for (Class<?> type : m.getExceptionTypes()) {
                        declared.add(type.getSimpleName());
                    }
                    holds(String.join(", ", declared).equals(due), "the throws clause of " + m.getName());
                }
            }
        }
        holds(found == FACE.length, "the methods of the document that were found: " + found);
    }

    /** Whatever the arguments and the state, a call throws nothing but what its throws clause names. */
    private static void onlyNamedExceptions() throws IllegalAccessException {
        Method[] methods = UnitKitchens.class.getMethods();
        methods = Arrays.stream(methods).filter(m -> m.getDeclaringClass() == UnitKitchens.class)
                .sorted(Comparator.comparing(Method::getName)).toArray(Method[]::new);
        for (int seed = 0; seed < RUNS; seed++) {
            Random random = new Random(seed);
            UnitKitchens x = new UnitKitchens();
            for (int call = 0; call < CALLS_A_RUN; call++) {
                Method m = methods[random.nextInt(methods.length)];
                Object[] arguments = new Object[m.getParameterCount()];
                for (int i = 0; i < arguments.length; i++) {
                    arguments[i] = anyArgument(m.getName(), random);
                }
                try {
                    m.invoke(x, arguments);
                } catch (InvocationTargetException e) {
                    holds(List.of(m.getExceptionTypes()).contains(e.getCause().getClass()),
                            m.getName() + Arrays.toString(arguments) + " throws " + e.getCause());
                }
            }
        }
    }

    private static int anyArgument(String method, Random random) {
        int kind = random.nextInt(40);
        if (method.equals("append") && kind > 1) {
            return "0123:g@+,05".charAt(random.nextInt(11));
        }
        if (method.equals("pass") && kind > 10) {
            return random.nextInt(5);
        }
        return kind == 0 ? Integer.MIN_VALUE : kind == 1 ? Integer.MAX_VALUE : kind < 30 ? random.nextInt(8)
                : kind < 35 ? random.nextInt(70) : random.nextInt(700) - 20;
    }
}
