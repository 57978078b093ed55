import java.lang.reflect.Method;
import java.lang.reflect.Modifier;
import java.util.ArrayList;
import java.util.Arrays;
import java.util.Comparator;
import java.util.List;
import java.util.Random;

/** All promises: runs of 512 calls drawn from fixed seeds, each answer compared with Model's. */
public final class ModelTest {
    private static final int RUNS = 600;
    private static final int CALLS = 512;
    private static final int WRONG_SHOWN = 20;
    private static final int[] EXTREMES = {Integer.MIN_VALUE, -8, -2, -1, 4, 5, 11, 41, 101, 201, 501, 1001,
        1000000000, 1000000001, Integer.MAX_VALUE};
    private static final Check CHECK = new Check();

    public static void main(String[] args) throws ReflectiveOperationException {
        List<Method> face = face();
        for (int run = 0; run < RUNS && CHECK.wrong() < WRONG_SHOWN; run++) {
            run(run, face);
        }
        CHECK.end();
    }

    private static List<Method> face() {
        List<Method> face = new ArrayList<>();
        for (Method method : GrindingCircuit.class.getDeclaredMethods()) {
            if (Modifier.isPublic(method.getModifiers())) {
                face.add(method);
            }
        }
        face.sort(Comparator.comparing(Method::getName));
        return face;
    }

    private static void run(int run, List<Method> face) throws ReflectiveOperationException {
        Random random = new Random(run);
        int wrongOdds = run % 4 == 0 ? 10 : 300;
        GrindingCircuit circuit = new GrindingCircuit();
        Model model = new Model();
        for (int call = 0; call < CALLS && CHECK.wrong() < WRONG_SHOWN; call++) {
            Method method = face.get(random.nextInt(face.size()));
            if (isRare(method.getName()) && random.nextInt(6) != 0) {
                continue;
            }
            Object[] values = arguments(method, random, wrongOdds);
            Method modelled = Model.class.getMethod(method.getName(), method.getParameterTypes());
            long got = ((Number) method.invoke(circuit, values)).longValue();
            long want = ((Number) modelled.invoke(model, values)).longValue();
            CHECK.due("run " + run + ", call " + call + ": " + method.getName() + Arrays.toString(values), want, got);
        }
    }

    /** Lots run out, and restoring undoes much, so these come less often. */
    private static boolean isRare(String name) {
        return name.equals("restore") || name.equals("addLot") || name.equals("planLot");
    }

    private static Object[] arguments(Method method, Random random, int wrongOdds) {
        Object[] values = new Object[method.getParameterCount()];
        for (int i = 0; i < values.length; i++) {
            values[i] = random.nextInt(wrongOdds) == 0
                    ? EXTREMES[random.nextInt(EXTREMES.length)]
                    : argument(method.getName(), i, random);
        }
        if (method.getName().equals("setBreakage") && random.nextInt(wrongOdds) != 0) {
            keepToTheSizes(values, random);
        }
        return values;
    }

    /** Most draws of three shares are refused, so they are drawn again to fit. */
    private static void keepToTheSizes(Object[] values, Random random) {
        int size = (Integer) values[0];
        int left = random.nextInt(11);
        for (int finer = 1; finer <= 3; finer++) {
            int share = size + finer <= 3 ? random.nextInt(left + 1) : 0;
            values[finer] = share;
            left -= share;
        }
    }

    private static int argument(String name, int index, Random random) {
        switch (name) {
            case "setBreakage":
            case "share":
                return random.nextInt(4);
            case "setReturn":
                return index == 0 ? random.nextInt(4) : shareBack(random);
            case "setWork":
                return index == 0 ? random.nextInt(4) : random.nextInt(101);
            case "setFeed":
                return index == 0 ? random.nextInt(4) : random.nextInt(3) * random.nextInt(501);
            case "load":
            case "product":
                return index == 0 ? random.nextInt(4) : random.nextInt(2);
            case "cutPower":
                return index == 0 ? random.nextInt(5) : random.nextInt(2);
            case "finestCut":
                return random.nextInt(1 << (1 + random.nextInt(21)));
            case "addLot":
                return lotMass(random);
            case "planLot":
                return index == 0 ? 1 + random.nextInt(1 << random.nextInt(10)) : lotMass(random);
            case "advance":
                return 1 + random.nextInt(1 << random.nextInt(9));
            case "setRate":
                return 1 + random.nextInt(100);
            case "setRule":
                return random.nextInt(3);
            case "bin":
                return random.nextInt(8) - 1;
            case "state":
            case "passes":
                return random.nextInt(16);
            case "mass":
                return index == 0 ? random.nextInt(16) : random.nextInt(5) - 1;
            case "produced":
                return random.nextInt(5) - 1;
            case "total":
                return random.nextInt(4);
            default:
                return random.nextInt(2);
        }
    }

    private static int shareBack(Random random) {
        return random.nextInt(3) == 0 ? 10 : random.nextInt(11);
    }

    /** Few different masses, so that lots are often equal by a rule. */
    private static int lotMass(Random random) {
        return random.nextInt(3) == 0 ? random.nextInt(201) : random.nextInt(3) * 10;
    }
}
