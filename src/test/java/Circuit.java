import java.lang.reflect.InvocationTargetException;
import java.lang.reflect.Method;
import java.util.HashMap;
import java.util.Map;

/**
 * A GrindingCircuit for the tests that counts its calls: the document promises nothing about an
 * object after its 512th call, so no test may ask for more.
 */
final class Circuit {
    private static final int PROMISED_CALLS = 512;
    private static final Map<String, Method> FACE = new HashMap<>();

    static {
        for (Method method : GrindingCircuit.class.getDeclaredMethods()) {
            FACE.put(method.getName(), method);
        }
    }

    private final GrindingCircuit circuit = new GrindingCircuit();
    private int calls = 0;

    private GrindingCircuit counted() {
        calls++;
        if (calls > PROMISED_CALLS) {
            throw new IllegalStateException("the test asks for more than " + PROMISED_CALLS + " calls");
        }
        return circuit;
    }

    /** A call by its name, for tables of calls. */
    long call(String name, int... arguments) {
        Object[] values = new Object[arguments.length];
        for (int i = 0; i < values.length; i++) {
            values[i] = arguments[i];
        }
        try {
            return ((Number) FACE.get(name).invoke(counted(), values)).longValue();
        } catch (IllegalAccessException | InvocationTargetException e) {
            throw new IllegalStateException(name + " failed", e);
        }
    }

    int setBreakage(int size, int one, int two, int three) {
        return counted().setBreakage(size, one, two, three);
    }

    int share(int from, int to) {
        return counted().share(from, to);
    }

    int setReturn(int size, int share) {
        return counted().setReturn(size, share);
    }

    int setWork(int size, int work) {
        return counted().setWork(size, work);
    }

    int setFeed(int size, int mass) {
        return counted().setFeed(size, mass);
    }

    long load(int size, int part) {
        return counted().load(size, part);
    }

    long product(int size, int part) {
        return counted().product(size, part);
    }

    long circulatingLoad(int part) {
        return counted().circulatingLoad(part);
    }

    long power(int part) {
        return counted().power(part);
    }

    long cutPower(int cut, int part) {
        return counted().cutPower(cut, part);
    }

    int finestCut(int limit) {
        return counted().finestCut(limit);
    }

    int addLot(int a, int b, int c, int d) {
        return counted().addLot(a, b, c, d);
    }

    int planLot(int delay, int a, int b, int c, int d) {
        return counted().planLot(delay, a, b, c, d);
    }

    int advance(int minutes) {
        return counted().advance(minutes);
    }

    int setRate(int rate) {
        return counted().setRate(rate);
    }

    int setRule(int rule) {
        return counted().setRule(rule);
    }

    int bin(int index) {
        return counted().bin(index);
    }

    int mill(int what) {
        return counted().mill(what);
    }

    int state(int lot) {
        return counted().state(lot);
    }

    int mass(int lot, int size) {
        return counted().mass(lot, size);
    }

    int passes(int lot) {
        return counted().passes(lot);
    }

    int produced(int size) {
        return counted().produced(size);
    }

    int total(int what) {
        return counted().total(what);
    }

    int save(int slot) {
        return counted().save(slot);
    }

    int restore(int slot) {
        return counted().restore(slot);
    }
}
