import java.lang.reflect.Method;
import java.lang.reflect.Modifier;
import java.util.Arrays;
import java.util.Comparator;
import java.util.Random;

/** Any call with any numbers in any state: none throws, each is refused with the one count that is due, or answers in its range. */
final class WildTest {
    private static final int OBJECTS = 150;
    private static final int CALLS = 512 / 2;
    private static final int MOST_COST = 2160000;
    private static final int[] NUMBERS = {Integer.MIN_VALUE, Integer.MIN_VALUE + 1, -1440, -10, -9, -2, -1, 0, 0, 0, 1, 1, 1, 2, 2, 3, 3,
        4, 5, 6, 7, 8, 9, 10, 11, 13, 14, 15, 16, 31, 32, 33, 59, 60, 64, 255, 719, 720, 721, 1023, 1439, 1440, 2047, 2819, 2878, 2879,
        2880, 16383, 16384, 1 << 30, Integer.MAX_VALUE - 1, Integer.MAX_VALUE};
    private static final String[] STATEMENTS = {"k2;", "k4;", "k10;", "s01,1;", "s10,60b;", "s12,7;", "s23,30b;", "s30,9;", "s98,5;", "s45,1;",
        "e01@0,1;", "e10@1439,9;", "e32@700,2;", "e03@719,3;", "m0,1;", "m1,0;", "m0,2;", "m13,1;", "k3", ";", "x"};
    private static final Due DUE = new Due();
    private static final Random RANDOM = new Random(77);

    private WildTest() { }

    public static void main(String[] args) throws ReflectiveOperationException {
        Method[] calls = Arrays.stream(OneWayTillNoon.class.getDeclaredMethods())
                .filter(method -> Modifier.isPublic(method.getModifiers()))
                .sorted(Comparator.comparing(Method::getName)).toArray(Method[]::new);
        for (int i = 0; i < OBJECTS; i++) {
            OneWayTillNoon x = new OneWayTillNoon();
            for (int call = 0; call < CALLS; call++) {
                if (RANDOM.nextInt(6) == 0) {
                    tellSome(x);
                }
                Method method = calls[RANDOM.nextInt(calls.length)];
                if (!isDear(method, x)) {
                    lookAt(x, method);
                }
            }
        }
        DUE.end();
    }

    private static boolean isDear(Method method, OneWayTillNoon x) {
        return x.count(1) > 7 && x.count(1) <= 10 && RANDOM.nextInt(4) > 0
                && (method.getName().equals("best") || method.getName().equals("bothWays") || method.getName().equals("far"));
    }

    private static void tellSome(OneWayTillNoon x) {
        StringBuilder text = new StringBuilder();
        for (int i = RANDOM.nextInt(6); i >= 0; i--) {
            text.append(STATEMENTS[RANDOM.nextInt(STATEMENTS.length - (RANDOM.nextInt(8) == 0 ? 0 : 3))]);
        }
        x.town();
        Due.told(x, text.length() > 64 ? text.substring(0, 64) : text.toString());
    }

    private static Object[] anyNumbers(Method method) {
        Class<?>[] types = method.getParameterTypes();
        Object[] numbers = new Object[types.length];
        for (int i = 0; i < types.length; i++) {
            if (types[i] == boolean.class) {
                numbers[i] = RANDOM.nextBoolean();
            } else if (types[i] == long.class) {
                numbers[i] = RANDOM.nextLong();
            } else {
                numbers[i] = RANDOM.nextInt(3) > 0 ? RANDOM.nextInt(5) : NUMBERS[RANDOM.nextInt(NUMBERS.length)];
            }
        }
        return numbers;
    }

    private static void lookAt(OneWayTillNoon x, Method method) throws ReflectiveOperationException {
        int[] before = refusals(x);
        Object[] numbers = anyNumbers(method);
        int answer = (Integer) method.invoke(x, numbers);
        int refusal = refusalOf(method.getName(), answer);
        int[] after = refusals(x);
        String call = method.getName() + Arrays.toString(numbers);
        for (int what = 0; what < after.length; what++) {
            DUE.due(call + " answers " + answer + ", refusals " + (11 + what), after[what] - before[what], refusal == -1 - what ? 1 : 0);
        }
        if (refusal == 0) {
            DUE.due(call + " answers " + answer + " in its range", isInRange(method.getName(), answer, x) ? 1 : 0, 1);
        }
    }

    private static int[] refusals(OneWayTillNoon x) {
        int[] counts = new int[6];
        for (int what = 0; what < counts.length; what++) {
            counts[what] = x.count(11 + what);
        }
        return counts;
    }

    private static int refusalOf(String name, int answer) {
        if (name.equals("shuts")) {
            return answer > 1000000000 ? 1000000000 - answer : 0;
        }
        return answer <= -1 && answer >= -6 ? answer : 0;
    }

    private static boolean isInRange(String name, int answer, OneWayTillNoon x) {
        int bits = (1 << x.count(1)) - 1;
        return switch (name) {
            case "feed" -> answer >= 1 && answer <= 64;
            case "town" -> answer >= 1 && answer <= 21 || answer <= -1000 && answer >= -1064 || answer <= -2000 && answer >= -2063;
            case "way" -> answer >= 0 && answer <= 3;
            case "shut", "all", "can", "meets" -> answer == 0 || answer == 1;
            case "point", "bridges", "walk", "best", "turning" -> answer >= 0 && answer <= bits;
            case "far", "bothWays", "lanes" -> answer == -9 || answer >= 0 && answer <= bits;
            case "soonest", "waited", "road" -> answer == -9 || answer >= 0 && answer <= 2939;
            case "longest" -> answer == -9 || answer >= 1 && answer <= 540;
            case "apart" -> answer >= 0 && answer <= 90;
            case "corner" -> answer >= 1 && answer <= 10;
            case "procession" -> (answer == -9 || answer >= 2 && answer <= 600) && x.count(6) == 0;
            case "bestNoon" -> answer >= 0 && answer <= 1380 && answer % 60 == 0;
            case "lives" -> answer >= 0 && answer < x.count(0);
            case "pairs" -> answer >= 0 && answer <= 28;
            case "judge" -> answer == -9 || answer >= 0 && answer < x.count(1) || answer >= 101 && answer <= 198;
            case "image", "on" -> answer == x.count(1);
            case "count" -> answer == -9 || answer >= 0 && answer <= 2 * CALLS;
            default -> answer >= 0 && answer <= MOST_COST;
        };
    }
}
