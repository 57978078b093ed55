/** Promises 7 to 12: the steady state and the sharp cuts. */
public final class SteadyStateTest {
    private static final Check CHECK = new Check();
    private static final int LOWEST = Integer.MIN_VALUE;
    private static final int HIGHEST = Integer.MAX_VALUE;

    public static void main(String[] args) {
        loadAndProduct();
        lowestTerms();
        greatestNumbers();
        noSteadyState();
        nothingEnters();
        circulatingLoad();
        power();
        cutPower();
        finestCut();
        wrongArguments();
        CHECK.end();
    }

    private static Circuit ordinary() {
        Circuit x = new Circuit();
        x.setBreakage(0, 3, 2, 1);
        x.setBreakage(1, 5, 1, 0);
        x.setBreakage(2, 6, 0, 0);
        x.setReturn(0, 10);
        x.setReturn(1, 5);
        x.setFeed(0, 100);
        x.setFeed(1, 40);
        x.setWork(0, 3);
        return x;
    }

    private static void load(Circuit x, int size, long numerator, long denominator) {
        CHECK.fraction("load(" + size + ")", numerator, denominator, x.load(size, 0), x.load(size, 1));
    }

    private static void product(Circuit x, int size, long numerator, long denominator) {
        CHECK.fraction("product(" + size + ")", numerator, denominator, x.product(size, 0), x.product(size, 1));
    }

    private static void loadAndProduct() {
        Circuit x = ordinary();
        load(x, 0, 500, 3);
        load(x, 1, 325, 4);
        load(x, 2, 0, 1);
        load(x, 3, 0, 1);
        product(x, 0, 0, 1);
        product(x, 1, 165, 4);
        product(x, 2, 1775, 24);
        product(x, 3, 595, 24);
    }

    private static void lowestTerms() {
        Circuit x = new Circuit();
        x.setFeed(3, 60);
        x.setReturn(3, 4);
        load(x, 3, 100, 1);
        product(x, 3, 60, 1);
        x.setFeed(3, 1);
        load(x, 3, 5, 3);
        product(x, 3, 1, 1);
        x.setReturn(3, 3);
        load(x, 3, 10, 7);
        x.setFeed(3, 0);
        load(x, 3, 0, 1);
        product(x, 3, 0, 1);
    }

    /** Denominators with no factor in common need the most room. */
    private static void greatestNumbers() {
        Circuit x = new Circuit();
        x.setBreakage(0, 1, 1, 1);
        x.setBreakage(1, 1, 2, 0);
        x.setBreakage(2, 1, 0, 0);
        x.setReturn(0, 3);
        x.setReturn(1, 1);
        x.setReturn(2, 7);
        x.setReturn(3, 9);
        for (int size = 0; size < 4; size++) {
            x.setFeed(size, 1000 - size);
            x.setWork(size, 100 - size);
        }
        load(x, 0, 100000, 79);
        load(x, 1, 7992100, 7347);
        load(x, 2, 854275300L, 271839L);
        load(x, 3, 1440348820L, 90613L);
        CHECK.fraction("power", 566545548320L, 271839L, x.power(0), x.power(1));
    }

    private static void noSteadyState() {
        Circuit x = ordinary();
        x.setReturn(3, 10);
        for (int part = 0; part < 2; part++) {
            for (int size = 0; size < 4; size++) {
                CHECK.due("load without a steady state", -5, x.load(size, part));
                CHECK.due("product without a steady state", -5, x.product(size, part));
            }
            CHECK.due("power without a steady state", -5, x.power(part));
            CHECK.due("circulatingLoad without a steady state", -5, x.circulatingLoad(part));
        }
        x.setReturn(3, 9);
        CHECK.holds("9 tenths have a steady state", x.load(3, 0) > 0);
        Circuit coarse = new Circuit();
        coarse.setReturn(0, 10);
        coarse.setFeed(0, 1);
        CHECK.due("a coarse feed that stays", -5, coarse.load(3, 0));
        coarse.setBreakage(0, 0, 0, 1);
        load(coarse, 0, 10, 1);
        product(coarse, 3, 1, 1);
    }

    private static void nothingEnters() {
        Circuit x = new Circuit();
        x.setReturn(1, 10);
        x.setFeed(0, 50);
        x.setBreakage(0, 0, 4, 0);
        load(x, 0, 50, 1);
        load(x, 1, 0, 1);
        product(x, 1, 0, 1);
        product(x, 2, 20, 1);
        x.setBreakage(0, 1, 4, 0);
        CHECK.due("broken ore enters", -5, x.load(1, 0));
        x.setFeed(0, 0);
        load(x, 1, 0, 1);
        x.setFeed(2, 8);
        load(x, 2, 8, 1);
        x.setFeed(1, 1);
        CHECK.due("feed enters", -5, x.product(2, 0));
        x.setReturn(1, 0);
        load(x, 1, 1, 1);
        x.setFeed(1, 0);
        x.setReturn(1, 10);
        load(x, 1, 0, 1);
        CHECK.fraction("no load is left over", 8, 1, x.power(0), x.power(1));
    }

    private static void circulatingLoad() {
        Circuit x = ordinary();
        CHECK.fraction("circulatingLoad", 37, 48, x.circulatingLoad(0), x.circulatingLoad(1));
        x.setReturn(0, 0);
        x.setReturn(1, 0);
        CHECK.fraction("circulatingLoad of nothing", 0, 1, x.circulatingLoad(0), x.circulatingLoad(1));
        x.setFeed(0, 0);
        x.setFeed(1, 0);
        CHECK.due("circulatingLoad without feed", -7, x.circulatingLoad(0));
        CHECK.due("circulatingLoad without feed", -7, x.circulatingLoad(1));
        CHECK.due("circulatingLoad(2) without feed", -3, x.circulatingLoad(2));
    }

    private static void power() {
        Circuit x = ordinary();
        CHECK.fraction("power", 2325, 4, x.power(0), x.power(1));
        x.setWork(0, 0);
        CHECK.fraction("power of size 1 alone", 325, 4, x.power(0), x.power(1));
        x.setWork(1, 0);
        CHECK.fraction("power without work", 0, 1, x.power(0), x.power(1));
        x.setFeed(3, 1000);
        x.setWork(3, 100);
        CHECK.fraction("power of the feed", 100000, 1, x.power(0), x.power(1));
    }

    private static void cutPower() {
        Circuit x = ordinary();
        long[][] due = {{340, 1}, {540, 1}, {650, 1}, {7475, 9}, {-5, -5}};
        for (int cut = 0; cut < 5; cut++) {
            CHECK.fraction("cutPower(" + cut + ")", due[cut][0], due[cut][1], x.cutPower(cut, 0), x.cutPower(cut, 1));
        }
        CHECK.due("the return share is kept", 10, x.setReturn(0, 10));
        CHECK.due("the return share is kept", 5, x.setReturn(1, 5));
        CHECK.fraction("the power is kept", 2325, 4, x.power(0), x.power(1));
        x.setReturn(3, 10);
        CHECK.due("a cut has its own steady state", 650, x.cutPower(2, 0));
        Circuit empty = new Circuit();
        CHECK.fraction("cutPower of nothing", 0, 1, empty.cutPower(4, 0), empty.cutPower(4, 1));
    }

    private static void finestCut() {
        Circuit x = ordinary();
        CHECK.due("finestCut(0)", -7, x.finestCut(0));
        CHECK.due("finestCut(339)", -7, x.finestCut(339));
        CHECK.due("finestCut(340)", 0, x.finestCut(340));
        CHECK.due("finestCut(539)", 0, x.finestCut(539));
        CHECK.due("finestCut(540)", 1, x.finestCut(540));
        CHECK.due("finestCut(650)", 2, x.finestCut(650));
        CHECK.due("finestCut(830)", 2, x.finestCut(830));
        CHECK.due("finestCut(831)", 3, x.finestCut(831));
        CHECK.due("finestCut(1000000000)", 3, x.finestCut(1000000000));
        CHECK.due("the return share is kept", 10, x.setReturn(0, 10));
        Circuit empty = new Circuit();
        CHECK.due("finestCut(0) of nothing", 4, empty.finestCut(0));
        empty.setFeed(1, 5);
        CHECK.due("a coarser cut without a steady state", 1, empty.finestCut(5));
        CHECK.due("below the only power", -7, empty.finestCut(4));
        empty.setWork(1, 0);
        CHECK.due("without work", 1, empty.finestCut(0));
        gapInTheCuts();
    }

    /** With cut 1 there is no steady state, so neither with a finer one. */
    private static void gapInTheCuts() {
        Circuit x = new Circuit();
        x.setFeed(0, 3);
        CHECK.due("cutPower(0) of the gap", 3, x.cutPower(0, 0));
        for (int cut = 1; cut < 5; cut++) {
            CHECK.due("cutPower of the gap", -5, x.cutPower(cut, 0));
        }
        CHECK.due("finestCut of the gap", 0, x.finestCut(1000000000));
    }

    private static void wrongArguments() {
        Circuit x = new Circuit();
        x.setFeed(3, 1);
        x.setReturn(3, 10);
        for (int size : new int[] {-1, 4, LOWEST, HIGHEST}) {
            CHECK.due("load of a wrong size", -1, x.load(size, 0));
            CHECK.due("load of a wrong size and part", -1, x.load(size, 2));
            CHECK.due("product of a wrong size", -1, x.product(size, 1));
            CHECK.due("product of a wrong size and part", -1, x.product(size, -1));
        }
        for (int part : new int[] {-1, 2, LOWEST, HIGHEST}) {
            CHECK.due("load of a wrong part", -3, x.load(0, part));
            CHECK.due("product of a wrong part", -3, x.product(0, part));
            CHECK.due("circulatingLoad of a wrong part", -3, x.circulatingLoad(part));
            CHECK.due("power of a wrong part", -3, x.power(part));
            CHECK.due("cutPower of a wrong part", -3, x.cutPower(4, part));
        }
        for (int cut : new int[] {-1, 5, LOWEST, HIGHEST}) {
            CHECK.due("cutPower of a wrong cut", -3, x.cutPower(cut, 0));
        }
        CHECK.due("cutPower without a steady state", -5, x.cutPower(4, 1));
        for (int limit : new int[] {-1, 1000000001, LOWEST, HIGHEST}) {
            CHECK.due("finestCut of a wrong limit", -3, x.finestCut(limit));
        }
    }
}
