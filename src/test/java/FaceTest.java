import java.lang.reflect.Constructor;
import java.lang.reflect.Field;
import java.lang.reflect.Method;
import java.lang.reflect.Modifier;
import java.util.TreeSet;

/** The public face and the constants, and promise 1: what a new object answers. */
public final class FaceTest {
    private static final Check CHECK = new Check();

    private static final String[] METHODS = {
        "int setBreakage(int,int,int,int)", "int share(int,int)", "int setReturn(int,int)",
        "int setWork(int,int)", "int setFeed(int,int)", "long load(int,int)", "long product(int,int)",
        "long circulatingLoad(int)", "long power(int)", "long cutPower(int,int)", "int finestCut(int)",
        "int addLot(int,int,int,int)", "int planLot(int,int,int,int,int)", "int advance(int)",
        "int setRate(int)", "int setRule(int)", "int bin(int)", "int mill(int)", "int state(int)",
        "int mass(int,int)", "int passes(int)", "int produced(int)", "int total(int)", "int save(int)",
        "int restore(int)"};

    private static final String[] CONSTANTS = {
        "NO_SUCH_SIZE=-1", "NO_SUCH_LOT=-2", "BAD_VALUE=-3", "TOO_MANY=-4", "NO_STEADY_STATE=-5",
        "NOT_SAVED=-6", "NONE=-7", "FIRST=0", "HEAVIEST=1", "COARSEST=2", "PLANNED=0", "BIN=1", "MILL=2",
        "DONE=3"};

    public static void main(String[] args) throws IllegalAccessException {
        CHECK.holds("the class is public and final",
                Modifier.isPublic(GrindingCircuit.class.getModifiers())
                && Modifier.isFinal(GrindingCircuit.class.getModifiers()));
        same("methods", METHODS, visibleMethods());
        same("constants", CONSTANTS, visibleConstants());
        Constructor<?>[] constructors = GrindingCircuit.class.getDeclaredConstructors();
        CHECK.due("number of constructors", 1, constructors.length);
        CHECK.holds("the constructor is public and takes nothing",
                Modifier.isPublic(constructors[0].getModifiers()) && constructors[0].getParameterCount() == 0);
        newSettings();
        newSimulation();
        objectsAreApart();
        CHECK.end();
    }

    private static void same(String what, String[] due, TreeSet<String> got) {
        TreeSet<String> want = new TreeSet<>(java.util.Arrays.asList(due));
        CHECK.holds(what + " are " + want + ", not " + got, want.equals(got));
    }

    private static TreeSet<String> visibleMethods() {
        TreeSet<String> found = new TreeSet<>();
        for (Method method : GrindingCircuit.class.getDeclaredMethods()) {
            if (Modifier.isPrivate(method.getModifiers())) {
                continue;
            }
            StringBuilder text = new StringBuilder(method.getReturnType() + " " + method.getName() + "(");
            for (int i = 0; i < method.getParameterCount(); i++) {
                text.append(i == 0 ? "" : ",").append(method.getParameterTypes()[i]);
            }
            CHECK.due("modifiers of " + text, Modifier.PUBLIC, method.getModifiers());
            found.add(text.append(")").toString());
        }
        return found;
    }

    private static TreeSet<String> visibleConstants() throws IllegalAccessException {
        TreeSet<String> found = new TreeSet<>();
        for (Field field : GrindingCircuit.class.getDeclaredFields()) {
            if (Modifier.isPrivate(field.getModifiers())) {
                continue;
            }
            CHECK.due("modifiers of " + field.getName(),
                    Modifier.PUBLIC | Modifier.STATIC | Modifier.FINAL, field.getModifiers());
            found.add(field.getName() + "=" + field.getInt(null));
        }
        return found;
    }

    private static void newSettings() {
        GrindingCircuit x = new GrindingCircuit();
        for (int from = 0; from < 4; from++) {
            for (int to = 0; to < 4; to++) {
                CHECK.due("new: share(" + from + "," + to + ")", from == to ? 10 : 0, x.share(from, to));
            }
            CHECK.fraction("new: load", 0, 1, x.load(from, 0), x.load(from, 1));
            CHECK.fraction("new: product", 0, 1, x.product(from, 0), x.product(from, 1));
        }
        CHECK.due("new: circulatingLoad(0)", GrindingCircuit.NONE, x.circulatingLoad(0));
        CHECK.fraction("new: power", 0, 1, x.power(0), x.power(1));
        CHECK.due("new: finestCut(0)", 4, x.finestCut(0));
        for (int size = 0; size < 4; size++) {
            CHECK.due("new: setReturn", 0, x.setReturn(size, 0));
            CHECK.due("new: setWork", 1, x.setWork(size, 1));
            CHECK.due("new: setFeed", 0, x.setFeed(size, 0));
        }
        CHECK.due("new: setRate", 10, x.setRate(10));
        CHECK.due("new: setRule", GrindingCircuit.FIRST, x.setRule(0));
    }

    private static void newSimulation() {
        GrindingCircuit x = new GrindingCircuit();
        for (int what = 0; what < 4; what++) {
            CHECK.due("new: total(" + what + ")", 0, x.total(what));
        }
        for (int size = -1; size < 4; size++) {
            CHECK.due("new: produced(" + size + ")", 0, x.produced(size));
        }
        CHECK.due("new: bin(-1)", 0, x.bin(-1));
        CHECK.due("new: bin(0)", GrindingCircuit.NONE, x.bin(0));
        CHECK.due("new: mill(0)", GrindingCircuit.NONE, x.mill(0));
        CHECK.due("new: mill(1)", GrindingCircuit.NONE, x.mill(1));
        CHECK.due("new: state(0)", GrindingCircuit.NO_SUCH_LOT, x.state(0));
        CHECK.due("new: restore(0)", GrindingCircuit.NOT_SAVED, x.restore(0));
        CHECK.due("new: restore(1)", GrindingCircuit.NOT_SAVED, x.restore(1));
    }

    private static void objectsAreApart() {
        GrindingCircuit one = new GrindingCircuit();
        GrindingCircuit other = new GrindingCircuit();
        one.setFeed(0, 7);
        one.setBreakage(0, 1, 2, 3);
        one.addLot(1, 0, 0, 0);
        one.save(0);
        CHECK.due("other object: setFeed", 0, other.setFeed(0, 0));
        CHECK.due("other object: share", 10, other.share(0, 0));
        CHECK.due("other object: total(1)", 0, other.total(1));
        CHECK.due("other object: restore(0)", GrindingCircuit.NOT_SAVED, other.restore(0));
    }
}
