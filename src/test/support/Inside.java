import java.lang.reflect.Field;

/** Sets what no run of calls can reach: limits that the document names, far above what a barn has in it. */
final class Inside {
    private Inside() {
    }

    static void set(BarnSummers x, String field, int number) throws ReflectiveOperationException {
        Object barn = barnOf(x);
        open(barn.getClass(), field).setInt(barn, number);
    }

    static void setLight(BarnSummers x, int cart, int light) throws ReflectiveOperationException {
        Object barn = barnOf(x);
        ((int[]) open(barn.getClass(), "light").get(barn))[cart] = light;
    }

    private static Object barnOf(BarnSummers x) throws ReflectiveOperationException {
        return open(BarnSummers.class, "now").get(x);
    }

    private static Field open(Class<?> c, String field) throws ReflectiveOperationException {
        Field f = c.getDeclaredField(field);
        f.setAccessible(true);
        return f;
    }
}
