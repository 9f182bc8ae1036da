import java.lang.reflect.InvocationTargetException;
import java.lang.reflect.Method;
import java.lang.reflect.Modifier;
import java.util.ArrayList;
import java.util.Comparator;
import java.util.List;
import java.util.Random;
import java.util.function.Consumer;

/** No call throws, and a call that returns an error or NONE changes nothing, for any arguments in any state. */
public final class AnyCallTest {
    private static final int[] NUMBERS = {Integer.MIN_VALUE, Integer.MIN_VALUE + 1, -101, -13, -6, -5, -2, -1, 0, 1, 2,
        3, 5, 6, 7, 9, 10, 11, 12, 13, 14, 29, 30, 59, 60, 61, 99, 100, 300, 301, Integer.MAX_VALUE - 1,
        Integer.MAX_VALUE};
    private static final Check check = new Check();
    private static final List<Method> METHODS = methods();

    private record Call(Method method, Object[] args) {
        int on(PictureLog x) {
            try {
                return (Integer) method.invoke(x, args);
            } catch (InvocationTargetException | IllegalAccessException e) {
                check.holds(method.getName() + List.of(args) + " threw " + e.getCause(), false);
                return 0;
            }
        }
    }

    public static void main(String[] args) {
        check.sentence("A call that returns an error or NONE changes nothing.");
        for (long seed = 0; seed < 40; seed++) {
            compare(new Random(seed));
        }
        check.sentence("No call may ever throw or fail to end");
        for (long seed = 0; seed < 200; seed++) {
            goOn(new Random(seed));
        }
        check.end();
    }

    private static List<Method> methods() {
        List<Method> methods = new ArrayList<>();
        for (Method method : PictureLog.class.getDeclaredMethods()) {
            if (Modifier.isPublic(method.getModifiers())) {
                methods.add(method);
            }
        }
        methods.sort(Comparator.comparing(Method::getName));
        return methods;
    }

    private static void compare(Random random) {
        List<Call> calls = first(random);
        boolean tame = random.nextInt(4) > 0;
        PictureLog x = Told.made(all(calls));
        Told before = null;
        while (calls.size() < 150) {
            int next = x.count(0);
            Call call = call(random, tame, next - x.count(1), next);
            int answer = call.on(x);
            if (answer < 0 && before == null) {
                before = Told.now(all(calls));
            }
            calls.add(call);
            Told after = answer < 0 ? Told.now(all(calls)) : null;
            if (after != null) {
                String other = before.difference(after);
                check.holds(call.method.getName() + " answered " + answer + " and changed: " + other, other == null);
            }
            before = after;
        }
    }

    private static Consumer<PictureLog> all(List<Call> calls) {
        List<Call> made = List.copyOf(calls);
        return x -> made.forEach(call -> call.on(x));
    }

    /** Some runs start with another way and another room. */
    private static List<Call> first(Random random) {
        List<Call> calls = new ArrayList<>();
        if (random.nextBoolean()) {
            for (Method method : METHODS) {
                if (method.getName().equals("setWay")) {
                    calls.add(new Call(method, new Object[] {random.nextInt(2)}));
                } else if (method.getName().equals("setRoom")) {
                    calls.add(new Call(method, new Object[] {30 + random.nextInt(random.nextBoolean() ? 20 : 271)}));
                }
            }
        }
        return calls;
    }

    /** What the answers are is free behind the 512th call; that the calls end is not. */
    private static void goOn(Random random) {
        PictureLog x = Told.made(all(first(random)));
        boolean tame = random.nextInt(4) > 0;
        int next = 0;
        for (int i = 0; i < 3000; i++) {
            int answer = call(random, tame, next - 20, next).on(x);
            next = answer > next && answer < next + 30 ? answer : next;
        }
        check.holds("it ends", true);
    }

    private static Call call(Random random, boolean tame, int first, int next) {
        Method method = METHODS.get(random.nextInt(METHODS.size()));
        Object[] args = new Object[method.getParameterCount()];
        for (int i = 0; i < args.length; i++) {
            int number = tame && random.nextInt(20) > 0 ? tameNumber(random, first, next)
                    : NUMBERS[random.nextInt(NUMBERS.length)];
            args[i] = method.getParameterTypes()[i] == char.class ? sign(random, number) : (Object) number;
        }
        return new Call(method, args);
    }

    private static int tameNumber(Random random, int first, int next) {
        boolean entry = random.nextInt(3) == 0 && next > first;
        return entry ? Math.max(0, first + random.nextInt(next - first)) : random.nextInt(12);
    }

    private static Object sign(Random random, int number) {
        String signs = "0123456789fatrp;-=+";
        return random.nextInt(4) > 0 ? signs.charAt(random.nextInt(signs.length())) : (char) number;
    }
}
