import java.lang.reflect.InvocationTargetException;
import java.lang.reflect.Method;
import java.lang.reflect.Modifier;
import java.util.ArrayList;
import java.util.Comparator;
import java.util.List;
import java.util.Random;

/** No call throws, for any arguments in any state, beyond the 512th call too. The seeds are fixed, so a run can be had again. */
public final class NoThrowTest {
    private static final int SURVEYS = 40;
    private static final int CALLS = 20000;
    private static final int[] FAR = {
        Integer.MIN_VALUE, Integer.MIN_VALUE + 1, Integer.MAX_VALUE, Integer.MAX_VALUE - 1, -2, -1, 400, 401, 1000, 1001};
    private static final String[] TEXTS = {
        "in a a has 1was", "in a b has 999hides,9ploughs,9mills,99worth,99was;in b a has 3hides", "in b b has 5hides,2worth;in a a has 4hides",
        Checks.times(20, "in a b has 7hides"), Checks.times(9, "in a a has 9hides"), "a", "b", "abcdefghij", "in", ";", "in a a has 1was,2was"};

    private final Random random;
    private final KingdomSurvey x = new KingdomSurvey();

    private NoThrowTest(int seed) {
        random = new Random(seed);
    }

    public static void main(String[] args) throws IllegalAccessException {
        for (int seed = 0; seed < SURVEYS && !Checks.anyWrong(); seed++) {
            NoThrowTest test = new NoThrowTest(seed);
            if (seed % 2 == 0) {
                test.settle();
            }
            test.run();
        }
        Checks.finish();
    }

    /** So that most texts have no fault, and the rolls become full. */
    private void settle() {
        x.hundred();
        for (String name : new String[] {"a", "b"}) {
            Checks.village(x, 0, 20, name);
            Checks.lord(x, -1, name);
        }
    }

    /** In an order that is the same on each machine. */
    private static List<Method> face() {
        List<Method> face = new ArrayList<>();
        for (Method m : KingdomSurvey.class.getDeclaredMethods()) {
            if (Modifier.isPublic(m.getModifiers())) {
                face.add(m);
            }
        }
        face.sort(Comparator.comparing(Method::getName));
        return face;
    }

    private void run() throws IllegalAccessException {
        List<Method> face = face();
        for (int i = 0; i < CALLS && !Checks.anyWrong(); i++) {
            if (random.nextInt(4) == 0) {
                x.find(0, true);
                useText(TEXTS[random.nextInt(TEXTS.length)]);
            } else {
                call(face.get(random.nextInt(face.size())));
            }
        }
    }

    private void useText(String text) {
        int n = Checks.put(x, text);
        switch (random.nextInt(4)) {
            case 0:
                x.village(number(), number(), n);
                break;
            case 1:
                x.lord(number(), n);
                break;
            case 2:
                x.sworn(number(), n);
                break;
            default:
                x.told(number(), n);
        }
    }

    private void call(Method method) throws IllegalAccessException {
        Class<?>[] types = method.getParameterTypes();
        Object[] values = new Object[types.length];
        for (int i = 0; i < types.length; i++) {
            values[i] = types[i] == boolean.class ? (Object) random.nextBoolean() : (Object) number();
        }
        String thrown = "nothing";
        try {
            method.invoke(x, values);
        } catch (InvocationTargetException e) {
            thrown = e.getCause().toString();
        }
        Checks.is(method.getName() + " of " + List.of(values) + " threw " + thrown, thrown.equals("nothing"), true);
    }

    /** Most often one that is of use, so that a survey fills up. */
    private int number() {
        int kind = random.nextInt(8);
        if (kind == 0) {
            return FAR[random.nextInt(FAR.length)];
        }
        return kind == 1 ? random.nextInt() : kind == 2 ? random.nextInt(160) : random.nextInt(kind < 6 ? 2 : 9);
    }
}
