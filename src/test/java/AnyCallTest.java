import java.lang.reflect.InvocationTargetException;
import java.lang.reflect.Method;
import java.lang.reflect.Modifier;
import java.util.ArrayList;
import java.util.Comparator;
import java.util.List;
import java.util.Random;

/** No call throws, and a call that returns an error or NONE changes nothing, for any arguments in any state. */
public final class AnyCallTest {
    private static final int[] NUMBERS = {Integer.MIN_VALUE, Integer.MIN_VALUE + 1, -101, -13, -6, -5, -2, -1, 0, 1, 2,
        3, 5, 6, 7, 9, 10, 11, 12, 13, 14, 29, 30, 59, 60, 61, 99, 100, 300, 301, Integer.MAX_VALUE - 1,
        Integer.MAX_VALUE};
    private static final Check check = new Check();
    private static final List<Method> METHODS = methods();

    public static void main(String[] args) {
        for (long seed = 0; seed < 60; seed++) {
            run(new Random(seed));
        }
        check.end();
    }

    private static List<Method> methods() {
        List<Method> methods = new ArrayList<>();
        for (Method method : PictureLog.class.getDeclaredMethods()) {
            if (Modifier.isPublic(method.getModifiers())) {
                methods.add(method);
            }
        }
        methods.sort(Comparator.comparing(Method::getName));
        return methods;
    }

    private static void run(Random random) {
        PictureLog x = new PictureLog();
        if (random.nextBoolean()) {
            x.setWay(random.nextInt(2));
            x.setRoom(30 + random.nextInt(271));
        }
        boolean tame = random.nextInt(4) > 0;
        int[] before = Told.by(x);
        for (int i = 2; i < 512; i++) {
            Method method = METHODS.get(random.nextInt(METHODS.size()));
            int answer = call(x, method, random, tame, before[0]);
            int[] after = Told.by(x);
            if (answer < 0) {
                String other = Told.difference(before, after);
                check.holds(method.getName() + " answered " + answer + " and changed: " + other, other == null);
            }
            before = after;
        }
    }

    private static int call(PictureLog x, Method method, Random random, boolean tame, int next) {
        Object[] args = new Object[method.getParameterCount()];
        for (int i = 0; i < args.length; i++) {
            int number = tame && random.nextInt(20) > 0 ? tameNumber(random, next)
                    : NUMBERS[random.nextInt(NUMBERS.length)];
            args[i] = method.getParameterTypes()[i] == char.class ? sign(random, number) : (Object) number;
        }
        try {
            return (Integer) method.invoke(x, args);
        } catch (InvocationTargetException | IllegalAccessException e) {
            check.holds(method.getName() + List.of(args) + " threw " + e.getCause(), false);
            return 0;
        }
    }

    private static int tameNumber(Random random, int next) {
        return random.nextInt(3) == 0 ? Math.max(0, next - 1 - random.nextInt(20)) : random.nextInt(12);
    }

    private static Object sign(Random random, int number) {
        String signs = "0123456789fatrp;-=+";
        return random.nextInt(4) > 0 ? signs.charAt(random.nextInt(signs.length())) : (char) number;
    }
}
