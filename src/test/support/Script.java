import java.lang.reflect.InvocationTargetException;
import java.lang.reflect.Method;
import java.util.HashMap;
import java.util.Map;
import java.util.regex.Matcher;
import java.util.regex.Pattern;

/**
 * Calls told as a text, such as "pass(10)=10 has(0,5)=1 undo()=NO", on one new object. A call behind which no answer
 * is told may answer what it likes. The object's calls are counted: beyond the 512th nothing is promised, so a test
 * that goes on is wrong itself.
 */
final class Script {
    static final int MOST_CALLS = 512;

    private static final Pattern CALL = Pattern.compile("([a-zA-Z]+)\\(([-0-9,]*)\\)(?:=(-?[0-9]+|[A-Z]+))?");
    private static final Map<String, Method> METHODS = methods();
    private static int wrong = 0;
    private static String sentence = "";

    private final BirthdayRooms house = new BirthdayRooms();
    private int calls = 0;

    /** What the next tests are about, as the document says it. */
    static void sentence(String words) {
        sentence = words;
    }

    static void fail(String what) {
        wrong++;
        System.out.println("[" + sentence + "] " + what);
    }

    static void end(String name) {
        System.out.println(wrong == 0 ? name + ": all answers are as due" : wrong + " answers are not as due");
        if (wrong != 0) {
            System.exit(1);
        }
    }

    /** A new object with this house, or with the first one if the text is empty, and these calls on it. */
    static Script on(String text, String told) {
        Script script = new Script();
        if (!text.isEmpty()) {
            script.type(text);
            script.run("lay()=" + text.chars().filter(letter -> letter == 'c').count());
            script.run("wipe()=" + text.length());
        }
        return script.run(told);
    }

    Script type(String text) {
        for (char letter : text.toCharArray()) {
            call("write", letter);
        }
        return this;
    }

    int answerOf(String one) {
        Matcher matcher = parted(one);
        return call(matcher.group(1), numbers(matcher.group(2)));
    }

    private static Matcher parted(String one) {
        Matcher matcher = CALL.matcher(one);
        if (!matcher.matches()) {
            throw new IllegalStateException("not a call: " + one);
        }
        return matcher;
    }

    Script run(String told) {
        if (told.isBlank()) {
            return this;
        }
        for (String one : told.trim().split("\\s+")) {
            Matcher matcher = parted(one);
            int got = call(matcher.group(1), numbers(matcher.group(2)));
            if (matcher.group(3) != null && got != answer(matcher.group(3))) {
                fail(one + " answered " + got + " as call " + calls + " of: " + told.trim());
            }
        }
        return this;
    }

    Script times(int many, String told) {
        for (int k = 0; k < many; k++) {
            run(told);
        }
        return this;
    }

    int callsMade() {
        return calls;
    }

    int call(String name, int... numbers) {
        calls++;
        if (calls > MOST_CALLS) {
            throw new IllegalStateException("a test makes more than " + MOST_CALLS + " calls: " + name);
        }
        Method method = METHODS.get(name + numbers.length);
        if (method == null) {
            throw new IllegalStateException("no such call: " + name + " with " + numbers.length);
        }
        Object[] arguments = new Object[numbers.length];
        for (int k = 0; k < numbers.length; k++) {
            arguments[k] = numbers[k];
        }
        try {
            return (Integer) method.invoke(house, arguments);
        } catch (InvocationTargetException thrown) {
            fail(name + " threw " + thrown.getCause());
            return Integer.MIN_VALUE;
        } catch (IllegalAccessException thrown) {
            throw new IllegalStateException(thrown);
        }
    }

    /**
     * All that the calls can tell of the object: what stands now, what each undoing and each going back would bring,
     * and what the text lays. Two objects that answer alike here stand alike; the object is used up by it.
     */
    String drained() {
        StringBuilder all = new StringBuilder();
        tellAll(all);
        int acts = call("count", 3);
        for (int k = 0; k <= acts; k++) {
            all.append("\nundo ").append(call("undo"));
            tellStanding(all);
        }
        int kept = call("count", 4);
        for (int k = 0; k <= kept; k++) {
            all.append("\nback ").append(call("back"));
            tellStanding(all);
        }
        all.append("\nlay ").append(call("lay"));
        tellStanding(all);
        all.append("\nforget ").append(call("forget"));
        return all.append(" wipe ").append(call("wipe")).toString();
    }

    private void tellAll(StringBuilder all) {
        int cousins = call("count", 0);
        all.append("counts");
        for (int what = 0; what <= 5; what++) {
            all.append(' ').append(call("count", what));
        }
        all.append(" fault ").append(call("fault"));
        for (int i = 0; i < cousins; i++) {
            all.append("\ncousin ").append(i);
            for (int what = 0; what <= 4; what++) {
                all.append(' ').append(call("cousin", i, what));
            }
            all.append(" room");
            for (int what = 0; what <= 2; what++) {
                all.append(' ').append(call("room", i, what));
            }
            all.append(" has ").append(call("has", i, 120));
            all.append(" register ").append(call("register", i, 0)).append(' ').append(call("register", i, 1));
        }
    }

    private void tellStanding(StringBuilder all) {
        int cousins = call("count", 0);
        all.append(" day ").append(call("count", 1));
        for (int i = 0; i < cousins; i++) {
            all.append(' ').append(call("cousin", i, 1)).append('/').append(call("cousin", i, 3));
        }
    }

    private static Map<String, Method> methods() {
        Map<String, Method> methods = new HashMap<>();
        for (Method method : BirthdayRooms.class.getMethods()) {
            if (method.getDeclaringClass() == BirthdayRooms.class) {
                methods.put(method.getName() + method.getParameterCount(), method);
            }
        }
        return methods;
    }

    private static int[] numbers(String told) {
        String[] parts = told.isEmpty() ? new String[0] : told.split(",");
        int[] numbers = new int[parts.length];
        for (int k = 0; k < parts.length; k++) {
            numbers[k] = Integer.parseInt(parts[k]);
        }
        return numbers;
    }

    private static int answer(String told) {
        switch (told) {
            case "BAD":
                return -1;
            case "NO":
                return -2;
            case "FULL":
                return -3;
            case "NONE":
                return -4;
            default:
                return Integer.parseInt(told);
        }
    }
}
