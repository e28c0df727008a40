import java.lang.reflect.Field;

/** Reaches into an object, for the states that no run of calls brings about. */
final class Inside {
    private Inside() {
    }

    /** Whether the class holds its state where this class reaches for it. */
    static boolean isKnown() {
        try {
            CanalLocks.class.getDeclaredField("now").getType().getDeclaredField("water").getType()
                    .getDeclaredField("volumes");
            return true;
        } catch (NoSuchFieldException e) {
            return false;
        }
    }

    static void setVolumes(Locks locks, int... volumes) {
        System.arraycopy(volumes, 0, (int[]) partOf(locks, "water", "volumes"), 0, 5);
    }

    static void setBasins(Locks locks, int... basins) {
        System.arraycopy(basins, 0, (int[]) partOf(locks, "fleet", "basins"), 0, basins.length);
    }

    static void setSpilled(Locks locks, int litres) {
        try {
            Object water = valueOf(valueOf(Locks.behind(locks), "now"), "water");
            fieldOf(water, "spilled").setInt(water, litres);
        } catch (ReflectiveOperationException e) {
            throw new IllegalStateException(e);
        }
    }

    private static Object partOf(Locks locks, String part, String row) {
        try {
            return valueOf(valueOf(valueOf(Locks.behind(locks), "now"), part), row);
        } catch (ReflectiveOperationException e) {
            throw new IllegalStateException(e);
        }
    }

    private static Object valueOf(Object owner, String name) throws ReflectiveOperationException {
        return fieldOf(owner, name).get(owner);
    }

    private static Field fieldOf(Object owner, String name) throws ReflectiveOperationException {
        Field field = owner.getClass().getDeclaredField(name);
        field.setAccessible(true);
        return field;
    }
}
