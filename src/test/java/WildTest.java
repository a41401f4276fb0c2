import java.lang.reflect.InvocationTargetException;
import java.lang.reflect.Method;
import java.lang.reflect.Modifier;
import java.util.ArrayList;
import java.util.List;
import java.util.Random;

/** Any numbers in any state: no call may throw, and each says at least that it is beyond. */
public final class WildTest {
    private static final int OBJECTS = 400;
    private static final int CALLS = 2000;
    private static final Due due = new Due();
    private static final Random random = new Random(20);

    public static void main(String[] args) throws Exception {
        List<Method> face = new ArrayList<>();
        for (Method m : SkyFees.class.getDeclaredMethods()) {
            if (Modifier.isPublic(m.getModifiers())) {
                face.add(m);
            }
        }
        face.sort((a, b) -> a.getName().compareTo(b.getName()));
        for (int i = 0; i < OBJECTS; i++) {
            int reach = 1 + random.nextInt(64);
            SkyFees x = random.nextBoolean() ? new SkyFees() : Due.twoLands(random.nextInt(1000));
            for (int c = 0; c < CALLS; c++) {
                call(x, face.get(random.nextInt(face.size())), reach);
            }
        }
        due.end();
    }

    private static void call(SkyFees x, Method m, int reach) throws IllegalAccessException {
        Object[] given = new Object[m.getParameterCount()];
        for (int i = 0; i < given.length; i++) {
            Class<?> type = m.getParameterTypes()[i];
            if (type == boolean.class) {
                given[i] = random.nextBoolean();
            } else if (type == long.class) {
                given[i] = random.nextLong();
            } else {
                given[i] = number(reach);
            }
        }
        int thrown = 0;
        try {
            m.invoke(x, given);
        } catch (InvocationTargetException e) {
            thrown = 1;
        }
        due.is(m.getName() + java.util.Arrays.toString(given) + " throws", thrown, 0);
    }

    private static int number(int reach) {
        switch (random.nextInt(24)) {
            case 0:
                return Integer.MIN_VALUE + random.nextInt(3);
            case 1:
                return Integer.MAX_VALUE - random.nextInt(3);
            case 2:
                return random.nextInt();
            case 3:
                return 8 << random.nextInt(3);
            case 4:
                return random.nextInt(10000);
            default:
                return random.nextInt(reach + 2) - 2;
        }
    }
}
