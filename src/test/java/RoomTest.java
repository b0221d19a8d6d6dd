import java.lang.reflect.Array;
import java.lang.reflect.Field;
import java.lang.reflect.Modifier;
import java.util.ArrayDeque;
import java.util.Deque;
import java.util.IdentityHashMap;

/** What an object holds is so little that even a run of 512 new objects has room for it. */
public final class RoomTest {
    private static final int CALLS = 512;
    private static final int OBJECTS = 600000;
    private static final int ELEMENTS = 7300000;
    private static int wrong = 0;

    /** How many objects and arrays hang on an object, and how many fields and elements they have. */
    private static int[] count(Object root) throws IllegalAccessException {
        IdentityHashMap<Object, Boolean> seen = new IdentityHashMap<>();
        Deque<Object> due = new ArrayDeque<>();
        due.add(root);
        seen.put(root, true);
        int elements = 0;
        while (!due.isEmpty()) {
            Object now = due.poll();
            if (now.getClass().isArray()) {
                elements += Array.getLength(now);
                if (now instanceof Object[]) for (Object o : (Object[]) now) if (o != null && seen.put(o, true) == null) due.add(o);
                continue;
            }
            for (Field f : now.getClass().getDeclaredFields()) {
                if (Modifier.isStatic(f.getModifiers())) continue;
                elements++;
                f.setAccessible(true);
                Object o = f.getType().isPrimitive() ? null : f.get(now);
                if (o != null && seen.put(o, true) == null) due.add(o);
            }
        }
        return new int[] {seen.size(), elements};
    }

    private static void fits(String what, int[] got) {
        System.out.println(what + ": " + got[0] + " objects and arrays, " + got[1] + " fields and elements");
        if (got[0] > OBJECTS / CALLS || got[1] > ELEMENTS / CALLS) {
            wrong++;
            System.out.println("that is too many, times " + CALLS);
        }
    }

    public static void main(String[] args) throws IllegalAccessException {
        CosetHouse x = new CosetHouse();
        int[] fresh = count(x);
        fits("a new object", fresh);
        x.begin(1, 300);
        x.run(2000);
        x.low(6);
        x.sheet(40);
        int[] used = count(x);
        if (used[0] != fresh[0] || used[1] != fresh[1]) {
            wrong++;
            System.out.println("calls but for keep() make nothing that stays: " + used[0] + ", " + used[1]);
        }
        x.keep();
        x.keep();
        int[] kept = count(x);
        fits("keep()", new int[] {kept[0] - used[0], kept[1] - used[1]});
        System.out.println(wrong == 0 ? "there is room" : wrong + " counts are not as due");
        if (wrong != 0) System.exit(1);
    }
}
