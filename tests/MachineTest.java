import java.lang.reflect.InvocationTargetException;
import java.lang.reflect.Method;
import java.lang.reflect.Modifier;
import java.util.Arrays;
import java.util.Comparator;
import java.util.Random;

/**
 * Any arguments in any state, also far behind the 512th call: a call throws what its face says,
 * and just that class, never one of the machine's own below it.
 */
public final class MachineTest {
    private static final int RUNS = 60;
    private static final int CALLS = 6000;
    private static final int[] ODD = {Integer.MIN_VALUE, Integer.MIN_VALUE + 1, -2000, -33, -1, 0, 1,
        2, 3, 4, 5, 6, 7, 8, 9, 10, 31, 32, 39, 40, 41, 48, 59, 60, 200, 255, 256, 999, 1000, 1999,
        2000, 2001, Integer.MAX_VALUE - 1, Integer.MAX_VALUE};

    public static void main(String[] args) throws ReflectiveOperationException {
        Method[] face = Arrays.stream(FerroDesk.class.getDeclaredMethods())
                .filter(method -> Modifier.isPublic(method.getModifiers()))
                .sorted(Comparator.comparing(Method::getName)).toArray(Method[]::new);
        for (int seed = 0; seed < RUNS; seed++) {
            run(new Random(seed), face);
        }
        readOn();
        Check.finish("MachineTest");
    }

    /** More readings than an object's 512 calls can make. */
    private static void readOn() {
        FerroDesk desk = new FerroDesk();
        desk.addBoard(0, 200);
        desk.queue(desk.post(0, 1, 0, 2000), 0);
        for (int hour = 1; hour < 1999; hour++) {
            desk.go(1);
            Check.same("a reading", Check.answer(desk, on -> on.pass(0, 1)) instanceof Integer,
                    true);
            Check.same("an early one", Check.answer(desk, on -> on.readIn(0, 1))
                    instanceof Integer, true);
        }
    }

    private static void run(Random random, Method[] face) throws ReflectiveOperationException {
        FerroDesk desk = new FerroDesk();
        for (int i = 0; i < CALLS; i++) {
            Method method = face[random.nextInt(face.length)];
            Object[] values = new Object[method.getParameterCount()];
            for (int j = 0; j < values.length; j++) {
                values[j] = value(random, desk);
            }
            if (method.getName().equals("go") && random.nextInt(3) != 0) {
                values[0] = 1;
            }
            String what = method.getName() + Arrays.toString(values);
            try {
                Check.same(what, method.invoke(desk, values) != null, true);
            } catch (InvocationTargetException e) {
                Class<?> thrown = e.getCause().getClass();
                boolean told = Arrays.asList(method.getExceptionTypes()).contains(thrown);
                Check.same(what + " throws " + thrown, told, true);
            }
        }
        Check.same("sound behind all", desk.isSound(), true);
    }

    private static int value(Random random, FerroDesk desk) {
        switch (random.nextInt(4)) {
            case 0: return ODD[random.nextInt(ODD.length)];
            case 1: return random.nextInt(5);
            case 2: return desk.hour() + random.nextInt(12) - 2;
            default: return random.nextInt(Math.max(1, desk.notices()));
        }
    }
}
