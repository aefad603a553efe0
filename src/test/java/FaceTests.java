import com.sun.management.ThreadMXBean;
import java.lang.management.ManagementFactory;
import java.lang.reflect.Constructor;
import java.lang.reflect.Field;
import java.lang.reflect.Method;
import java.lang.reflect.Modifier;
import java.nio.file.Files;
import java.nio.file.Path;
import java.util.Set;
import java.util.TreeSet;
import java.util.regex.Matcher;
import java.util.regex.Pattern;

/** The public face is the document's and no more, and the source keeps to the language's plainest rules. */
public final class FaceTests {
    private static final String[] FACE = {
        "write 1", "wipe 0", "fault 0", "lay 0", "cousin 2", "room 2", "pass 1", "swap 2", "alter 2", "undo 0",
        "has 2", "whose 2", "sun 2", "cold 1", "want 1", "swaps 3", "warm 2", "canHave 2", "round 0", "way 3",
        "seen 3", "forget 0", "register 2", "foundling 4", "loses 1", "next 1", "year 3", "keep 0", "back 0", "count 1",
    };

    private static int wrong = 0;

    private static void due(String what, Object got, Object want) {
        if (!got.equals(want)) {
            wrong++;
            System.out.println(what + ": " + got + ", due is " + want);
        }
    }

    public static void main(String[] args) throws Exception {
        methods();
        constructorsAndFields();
        nestedClasses();
        source();
        room();
        System.out.println(wrong == 0 ? "the face is as due" : wrong + " things are not as due");
        if (wrong != 0) {
            System.exit(1);
        }
    }

    private static void methods() {
        Set<String> got = new TreeSet<>();
        Set<String> names = new TreeSet<>();
        for (Method method : BirthdayRooms.class.getDeclaredMethods()) {
            if (Modifier.isPrivate(method.getModifiers())) {
                continue;
            }
            names.add(method.getName());
            got.add(method.getName() + " " + method.getParameterCount());
            due("modifiers of " + method.getName(), Modifier.toString(method.getModifiers()), "public");
            due("type of " + method.getName(), method.getReturnType().getName(), "int");
            for (Class<?> type : method.getParameterTypes()) {
                due("a parameter of " + method.getName(), type.getName(), "int");
            }
        }
        due("the methods", got, new TreeSet<>(Set.of(FACE)));
        for (Method method : BirthdayRooms.class.getDeclaredMethods()) {
            if (Modifier.isPrivate(method.getModifiers())) {
                due("private " + method.getName() + " bears a public name", names.contains(method.getName()), false);
            }
        }
    }

    private static void constructorsAndFields() {
        Constructor<?>[] constructors = BirthdayRooms.class.getDeclaredConstructors();
        due("how many constructors", constructors.length, 1);
        due("constructor", Modifier.toString(constructors[0].getModifiers()), "public");
        due("constructor's parameters", constructors[0].getParameterCount(), 0);
        Set<String> got = new TreeSet<>();
        for (Field field : BirthdayRooms.class.getDeclaredFields()) {
            if (Modifier.isStatic(field.getModifiers())) {
                due("final " + field.getName(), Modifier.isFinal(field.getModifiers()), true);
            }
            if (!Modifier.isPrivate(field.getModifiers())) {
                got.add(field.getName());
                due("modifiers of " + field.getName(), Modifier.toString(field.getModifiers()), "public static final");
            }
        }
        due("the constants", got, new TreeSet<>(Set.of("BAD", "NO", "FULL", "NONE")));
        due("the class", Modifier.toString(BirthdayRooms.class.getModifiers()), "public final");
    }

    private static void nestedClasses() {
        Class<?>[] classes = BirthdayRooms.class.getDeclaredClasses();
        due("at most twelve classes", classes.length <= 11, true);
        Set<String> face = new TreeSet<>();
        for (String method : FACE) {
            face.add(method.substring(0, method.indexOf(' ')));
        }
        for (Class<?> nested : classes) {
            due("static " + nested.getName(), Modifier.isStatic(nested.getModifiers()), true);
            due("not public " + nested.getName(), Modifier.isPublic(nested.getModifiers()), false);
            for (Method method : nested.getDeclaredMethods()) {
                due(method + " bears a public name", face.contains(method.getName()), false);
            }
        }
    }

    /** All calls of a run live in one room: rows are made with the house, and a call makes nothing. */
    private static void room() {
        ThreadMXBean threads = (ThreadMXBean) ManagementFactory.getThreadMXBean();
        if (!threads.isThreadAllocatedMemorySupported() || !threads.isThreadAllocatedMemoryEnabled()) {
            return;
        }
        everyCall(new BirthdayRooms());
        long before = threads.getThreadAllocatedBytes(Thread.currentThread().getId());
        BirthdayRooms house = new BirthdayRooms();
        long made = threads.getThreadAllocatedBytes(Thread.currentThread().getId());
        everyCall(house);
        long used = threads.getThreadAllocatedBytes(Thread.currentThread().getId());
        due("a new house is below 20,000 bytes", made - before < 20000, true);
        due("all calls make less than 1,000 bytes together", used - made < 1000, true);
    }

    private static void everyCall(BirthdayRooms x) {
        for (int k = 0; k < 14; k++) {
            x.write('c');
            x.fault();
            x.lay();
            x.wipe();
            x.cousin(k % 6, k % 5);
            x.room(k % 6, k % 3);
            x.pass(1 + k);
            x.swap(k % 6, 5 - k % 6);
            x.alter(k % 6, k);
            x.undo();
            x.has(k % 6, 120);
            x.whose(k % 6, 120);
            x.sun(k % 6, 120);
            x.cold(120);
            x.want(120);
            x.swaps(k % 6, 60, k % 3);
            x.warm(60, k % 2);
            x.canHave(k % 6, 120);
            x.round();
            x.way(k % 6, 5 - k % 6, k % 2);
            x.seen(k % 6, k % 6, 120 - k);
            x.register(k % 6, k % 2);
            x.forget();
            x.foundling(k % 6, k % 5, 120, k % 2);
            x.loses(k % 2);
            x.next(k % 2);
            x.year(k, 120, k % 2);
            x.keep();
            x.back();
            x.count(k % 6);
        }
    }

    private static void source() throws Exception {
        String source = Files.readString(Path.of(System.getProperty("birthdayrooms.root", "."),
            "src/main/java/BirthdayRooms.java"));
        for (int k = 0; k < source.length(); k++) {
            if (source.charAt(k) > 126) {
                due("a sign of the source", (int) source.charAt(k), "1 to 126");
            }
        }
        String code = source.replaceAll("(?s)/\\*.*?\\*/", "").replaceAll("//[^\n]*", "").replaceAll("\"[^\"]*\"", "\"\"");
        String[] ruledOut = {"throw", "throws", "try", "catch", "synchronized", "assert", "import", "package",
            "System", "Thread", "Random", "->", "::", "double", "float", "hashCode", "toString"};
        for (String word : ruledOut) {
            String pattern = Character.isLetter(word.charAt(0)) ? "\\b" + word + "\\b" : Pattern.quote(word);
            Matcher matcher = Pattern.compile(pattern).matcher(code);
            due("'" + word + "' in the source", matcher.find(), false);
        }
    }
}
