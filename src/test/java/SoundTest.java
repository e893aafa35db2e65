import java.lang.reflect.Array;
import java.lang.reflect.Field;

/**
 * isSound() tells false of a table that is not sound. No call can make one, so this test reaches into
 * the class and bends what a table holds; it goes by the names of the class's fields.
 */
public final class SoundTest {
    private static final int TABLES = 4;
    private static int wrong;

    public static void main(String[] args) throws ReflectiveOperationException {
        for (int table = 0; table < TABLES; table++) {
            needFalse("a pair too many is counted", table, "pairs", -1, 3);
            needFalse("a pair too few is counted", table, "pairs", -1, 1);
            needFalse("no pair is counted", table, "pairs", -1, 0);
            needFalse("the first pair's worth is not there", table, "times", 50, 0);
            needFalse("the last pair's worth is not there", table, "times", 99, 0);
            needFalse("a pair comes that is not counted", table, "worthOf", 7, 70);
            needFalse("a pair that is counted does not come", table, "worthOf", 5, -1);
            needFalse("a pair has a worth that is not there", table, "worthOf", 63, 98);
        }
        needDigestOfFalse();
        System.out.println(wrong + " wrong");
        System.exit(wrong == 0 ? 0 : 1);
    }

    private static void needFalse(String fault, int table, String field, int place, int number)
            throws ReflectiveOperationException {
        Hashladder x = new Hashladder();
        x.put(table, 5, 50);
        x.put(table, 63, 99);
        long before = x.digest();
        if (!x.isSound()) {
            tell(fault, table, "before it was bent the table was not sound");
        }
        bend(tableOf(x, table), field, place, number);
        if (x.isSound()) {
            tell(fault, table, "isSound() answered true, due is false");
        }
        if (x.digest() == before) {
            tell(fault, table, "digest() is as before");
        }
    }

    /** With the spare table alone bent all is as before but isSound(), which digest() takes in last. */
    private static void needDigestOfFalse() throws ReflectiveOperationException {
        Hashladder x = new Hashladder();
        x.put(0, 5, 50);
        long before = x.digest();
        bend(opened(Hashladder.class, "spare").get(x), "pairs", -1, 1);
        if (x.isSound() || x.digest() != before - 1) {
            tell("the copy has a pair more", 0, "digest() does not take in 0 for isSound()");
        }
    }

    private static Object tableOf(Hashladder x, int table) throws ReflectiveOperationException {
        return Array.get(opened(Hashladder.class, "tables").get(x), table);
    }

    /** Sets a field, or its element at a place if that is not below 0. */
    private static void bend(Object table, String name, int place, int number)
            throws ReflectiveOperationException {
        Field field = opened(table.getClass(), name);
        if (place < 0) {
            field.setInt(table, number);
        } else {
            Array.setInt(field.get(table), place, number);
        }
    }

    private static Field opened(Class<?> type, String name) throws ReflectiveOperationException {
        Field field = type.getDeclaredField(name);
        field.setAccessible(true);
        return field;
    }

    private static void tell(String fault, int table, String words) {
        wrong++;
        System.out.println(fault + " in table " + table + ": " + words);
    }
}
