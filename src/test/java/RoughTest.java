import java.lang.reflect.Array;
import java.lang.reflect.Field;
import java.lang.reflect.InvocationTargetException;
import java.lang.reflect.Method;
import java.lang.reflect.Modifier;
import java.util.ArrayList;
import java.util.IdentityHashMap;
import java.util.List;
import java.util.Map;
import java.util.NoSuchElementException;
import java.util.Random;

/** No argument in any state makes the machine itself throw; what an object keeps stays small. */
public final class RoughTest {
    private static final int RUNS = 1500;
    private static final int CALLS = 512;
    private static final int MOST_NEW_CELLS = 5000;
    private static final int MOST_NEW_OBJECTS = 150;
    private static final int MOST_KEPT_CELLS = 40000;
    private static final int MOST_KEPT_OBJECTS = 1000;
    private static final int[] EDGES = {Integer.MIN_VALUE, -1000000, -17, -2, -1, 0, 1, 2, 3, 4, 5, 6, 7, 8, 9, 15, 16,
        17, 31, 32, 40, 41, 60, 127, 128, 200, 201, 239, 240, 241, 999, 1000, 65536, Integer.MAX_VALUE};

    public static void main(String[] args) throws IllegalAccessException {
        Checks checks = new Checks();
        Random random = new Random(11);
        List<Method> face = new ArrayList<>();
        for (Method method : ZoneLedger.class.getDeclaredMethods()) {
            if (Modifier.isPublic(method.getModifiers())) {
                face.add(method);
            }
        }
        face.sort((a, b) -> a.getName().compareTo(b.getName()));
        for (int run = 0; run < RUNS; run++) {
            ZoneLedger ledger = new ZoneLedger();
            if (run % 5 != 0) {
                Checks.feed(ledger, ModelTest.drawnDrive(random));
                ledger.text(0);
                Checks.script(ledger, ModelTest.drawnScript(random));
            }
            for (int i = 0; i < CALLS; i++) {
                Method method = face.get(random.nextInt(face.size()));
                checks.holds("run " + run + ": " + method.getName() + " threw", isFine(ledger, method, random));
            }
        }
        ZoneLedger ledger = new ZoneLedger();
        keeps(checks, ledger, MOST_NEW_OBJECTS, MOST_NEW_CELLS);
        Checks.feed(ledger, "s");
        ledger.text(0);
        for (int i = 0; i < 100; i++) {
            ledger.years(40, i);
        }
        keeps(checks, ledger, MOST_KEPT_OBJECTS, MOST_KEPT_CELLS);
        checks.finish();
    }

    private static boolean isFine(ZoneLedger ledger, Method method, Random random) throws IllegalAccessException {
        Object[] given = new Object[method.getParameterCount()];
        for (int i = 0; i < given.length; i++) {
            int edge = random.nextInt(3) == 0 ? EDGES[random.nextInt(EDGES.length)] : random.nextInt(9);
            if (method.getParameterTypes()[i] == long.class) {
                given[i] = random.nextBoolean() ? (Long) (long) edge : (Long) random.nextLong();
            } else {
                given[i] = edge;
            }
        }
        try {
            method.invoke(ledger, given);
            return true;
        } catch (InvocationTargetException e) {
            return method.getName().equals("zone") && e.getCause() instanceof NoSuchElementException;
        }
    }

    private static void keeps(Checks checks, ZoneLedger ledger, int objects, int cells) throws IllegalAccessException {
        int[] kept = new int[2];
        count(ledger, new IdentityHashMap<>(), kept);
        checks.holds("an object keeps " + kept[0] + " objects", kept[0] <= objects);
        checks.holds("an object keeps " + kept[1] + " cells", kept[1] <= cells);
        System.out.println("an object keeps " + kept[0] + " objects with " + kept[1] + " cells");
    }

    private static void count(Object object, Map<Object, Object> seen, int[] kept) throws IllegalAccessException {
        if (object == null || seen.put(object, object) != null) {
            return;
        }
        kept[0]++;
        if (object.getClass().isArray()) {
            int length = Array.getLength(object);
            kept[1] += length;
            for (int i = 0; i < length && !object.getClass().getComponentType().isPrimitive(); i++) {
                count(Array.get(object, i), seen, kept);
            }
            return;
        }
        for (Field field : object.getClass().getDeclaredFields()) {
            if (!Modifier.isStatic(field.getModifiers())) {
                kept[1]++;
                field.setAccessible(true);
                if (!field.getType().isPrimitive()) {
                    count(field.get(object), seen, kept);
                }
            }
        }
    }
}
