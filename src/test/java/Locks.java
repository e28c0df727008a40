import java.lang.reflect.InvocationHandler;
import java.lang.reflect.InvocationTargetException;
import java.lang.reflect.Method;
import java.lang.reflect.Proxy;

/**
 * The face of CanalLocks as the tests use it. Behind it stands an object of the class whose calls are
 * counted: what it answers after the 512th is free, so no test may ask it that often.
 */
interface Locks {
    int CALLS = 512;

    int addBoat(char colour, int draught, boolean isGoingDown);

    int setValve(int valve, int opening);

    int openGate(int gate);

    int shutGate(int gate);

    int setRain(int litres);

    int setDrain(int litres);

    int advance(int minutes);

    int area(int basin);

    int volume(int basin);

    int level(int basin);

    double exactLevel(int basin);

    boolean isHigher(int first, int second);

    int equalizingAmount(int gate);

    int equalizingAmountByLitres(int gate);

    int opening(int valve);

    boolean isOpen(int gate);

    int flow(int gate);

    int rain();

    int drain();

    int totalVolume();

    int totalVolumeByAccounts();

    int rainTotal();

    int drainTotal();

    int spilledTotal();

    int basinByLevel(int rank);

    int boatCount();

    char colour(int boat);

    int draught(int boat);

    boolean isGoingDown(int boat);

    int basinOf(int boat);

    int boatsIn(int basin);

    int boatInOrder(int rank);

    boolean floats(int boat, int basin);

    int leftTotal(char colour);

    int minutesUntilLeaving(int boat);

    int minutesUntilEqual(int gate);

    int volumeAfter(int basin, int minutes);

    int eventCount();

    char eventKind(int recency);

    int eventNumber(int recency);

    int time();

    float meanLevel();

    boolean isConsistent();

    int renderLevels();

    int renderBoat(int boat);

    char outputAt(int index);

    int type(char character);

    int runScript();

    int errorPosition();

    int failedCommand();

    int undo();

    int save();

    int restore();

    static Locks make() {
        return (Locks) Proxy.newProxyInstance(Locks.class.getClassLoader(),
                new Class<?>[] {Locks.class}, new Counted());
    }

    static int callsOf(Locks locks) {
        return ((Counted) Proxy.getInvocationHandler(locks)).calls;
    }

    static CanalLocks behind(Locks locks) {
        return ((Counted) Proxy.getInvocationHandler(locks)).behind;
    }

    /** Hands each call on to an object of the class and counts it. */
    final class Counted implements InvocationHandler {
        private final CanalLocks behind = new CanalLocks();
        private int calls = 0;

        @Override
        public Object invoke(Object proxy, Method head, Object[] arguments) throws Throwable {
            calls++;
            if (calls > CALLS) {
                throw new AssertionError("this test calls one object more than " + CALLS + " times");
            }
            try {
                return CanalLocks.class.getMethod(head.getName(), head.getParameterTypes())
                        .invoke(behind, arguments);
            } catch (InvocationTargetException e) {
                throw e.getCause();
            }
        }
    }
}
