import java.lang.reflect.InvocationTargetException;
import java.lang.reflect.Method;
import java.util.Arrays;
import java.util.HashMap;
import java.util.Map;
import java.util.regex.Matcher;
import java.util.regex.Pattern;

/** A SheepSquare whose calls are told as texts, "row(0, 2, 40)", so that a test can tell many of one kind in a line. */
final class Town {
    static final int NONE = SheepSquare.NONE, BAD = SheepSquare.BAD, STATE = SheepSquare.STATE, FULL = SheepSquare.FULL;
    static final int NULL = -1000011, PLACE = -1000012, KIND = -1000013, SIZE = -1000014, STORE = -1000015;

    private static final int MOST_CALLS = 512;
    private static final Pattern CALL = Pattern.compile("([a-z]+)\\((.*)\\)");
    private static final Map<String, Method> FACE = new HashMap<>();

    private final SheepSquare square = new SheepSquare();
    private final Due due;
    private final String sentence;
    private int calls = 0;

    /** The sentence of the document that is looked at stands ahead of each answer that is not as due. */
    Town(Due due, String sentence) {
        this.due = due;
        this.sentence = sentence;
    }

    /** Each of the calls answers so. */
    Town is(int want, String... all) {
        for (String one : all) due.is(sentence + ": " + one, call(one), want);
        return this;
    }

    /** The answers to a call whose last number goes from 0 on: "sheep(2, ". */
    Town are(String begun, int... want) {
        for (int i = 0; i < want.length; i++) is(want[i], begun + i + ")");
        return this;
    }

    /** Calls whose answers are looked at elsewhere. */
    Town run(String... all) {
        for (String one : all) call(one);
        return this;
    }

    Town feed(String text) {
        for (int i = 0; i < text.length(); i++) call("feed(" + (int) text.charAt(i) + ")");
        return this;
    }

    /** A text that must be well told. */
    Town reads(String text) {
        int sleepers = feed(text).call("square()");
        if (sleepers < 0) throw new IllegalArgumentException("no square: " + text);
        return this;
    }

    int call(String call) {
        Matcher m = CALL.matcher(call);
        if (!m.matches()) throw new IllegalArgumentException(call);
        String[] told = m.group(2).isEmpty() ? new String[0] : m.group(2).split(",");
        int[] numbers = Arrays.stream(told).mapToInt(Town::number).toArray();
        if (++calls > MOST_CALLS) throw new IllegalStateException("behind 512 calls all answers are free: " + sentence);
        return call(square, m.group(1), numbers);
    }

    private static int number(String told) {
        String one = told.trim();
        return one.equals("MAX") ? Integer.MAX_VALUE : one.equals("MIN") ? Integer.MIN_VALUE : Integer.parseInt(one);
    }

    static int call(SheepSquare square, String name, int... numbers) {
        try {
            return (int) method(name, numbers.length).invoke(square, Arrays.stream(numbers).boxed().toArray());
        } catch (InvocationTargetException thrown) {
            throw new IllegalStateException(name + Arrays.toString(numbers) + " threw", thrown.getCause());
        } catch (ReflectiveOperationException none) {
            throw new IllegalArgumentException("no such call: " + name + Arrays.toString(numbers), none);
        }
    }

    private static Method method(String name, int numbers) throws NoSuchMethodException {
        Method known = FACE.get(name + numbers);
        if (known != null) return known;
        Class<?>[] ints = new Class<?>[numbers];
        Arrays.fill(ints, int.class);
        Method found = SheepSquare.class.getMethod(name, ints);
        FACE.put(name + numbers, found);
        return found;
    }
}
