/** Promises 13 to 24: the lots, the bin, the mill and the order of what happens. */
public final class SimulationTest {
    private static final Check CHECK = new Check();
    private static final int LOWEST = Integer.MIN_VALUE;
    private static final int HIGHEST = Integer.MAX_VALUE;

    public static void main(String[] args) {
        addLot();
        addLotRefused();
        planLot();
        planLotRefused();
        tooManyLots();
        advance();
        orderAtOneTime();
        breakingRoundsDown();
        brokenOreIsNotBrokenAgain();
        settingsAtTheFinish();
        ruleHeaviest();
        ruleCoarsest();
        equalLotsByArrival();
        fullBin();
        ruleWhenTheMillStarts();
        mill();
        wrongLots();
        totals();
        CHECK.end();
    }

    private static void addLot() {
        Circuit x = new Circuit();
        CHECK.due("addLot", 0, x.addLot(0, 0, 0, 1));
        CHECK.due("it is ground at once", 2, x.state(0));
        CHECK.due("bin(-1)", 0, x.bin(-1));
        CHECK.due("rounded up", 1, x.mill(1));
        CHECK.due("addLot of the greatest", 1, x.addLot(200, 200, 200, 200));
        CHECK.due("it waits", 1, x.state(1));
        CHECK.due("bin(-1)", 1, x.bin(-1));
        CHECK.due("bin(0)", 1, x.bin(0));
        for (int size = 0; size < 4; size++) {
            CHECK.due("mass(1)", 200, x.mass(1, size));
        }
        CHECK.due("mass(1,-1)", 800, x.mass(1, -1));
        CHECK.due("addLot", 2, x.addLot(1, 2, 3, 4));
        for (int size = 0; size < 4; size++) {
            CHECK.due("mass(2)", 1 + size, x.mass(2, size));
        }
        CHECK.due("time", 0, x.total(0));
        CHECK.due("passes", 0, x.passes(2));
    }

    private static void addLotRefused() {
        Circuit x = new Circuit();
        CHECK.due("addLot(0,0,0,0)", -3, x.addLot(0, 0, 0, 0));
        for (int mass : new int[] {-1, 201, LOWEST, HIGHEST}) {
            CHECK.due("addLot wrong a", -3, x.addLot(mass, 1, 1, 1));
            CHECK.due("addLot wrong b", -3, x.addLot(1, mass, 1, 1));
            CHECK.due("addLot wrong c", -3, x.addLot(1, 1, mass, 1));
            CHECK.due("addLot wrong d", -3, x.addLot(1, 1, 1, mass));
        }
        CHECK.due("no lot was created", 0, x.total(1));
        CHECK.due("the mill is idle", -7, x.mill(0));
    }

    private static void planLot() {
        Circuit x = new Circuit();
        CHECK.due("planLot(3)", 0, x.planLot(3, 5, 6, 7, 8));
        CHECK.due("planLot(1000)", 1, x.planLot(1000, 0, 200, 0, 0));
        CHECK.due("planned", 0, x.state(0));
        CHECK.due("mill", -7, x.mill(0));
        CHECK.due("bin", 0, x.bin(-1));
        CHECK.due("mass of a planned lot", 26, x.mass(0, -1));
        CHECK.due("mass of a planned lot", 7, x.mass(0, 2));
        CHECK.due("passes of a planned lot", 0, x.passes(0));
        x.advance(2);
        CHECK.due("still planned", 0, x.state(0));
        x.advance(1);
        CHECK.due("it came and is ground", 2, x.state(0));
        CHECK.due("minutes", 3, x.mill(1));
        CHECK.due("planLot from now", 2, x.planLot(1, 1, 0, 0, 0));
        x.advance(1);
        CHECK.due("it came into the bin", 1, x.state(2));
        x.advance(500);
        x.advance(495);
        CHECK.due("time", 999, x.total(0));
        CHECK.due("planned for 1000", 0, x.state(1));
        x.advance(1);
        CHECK.due("came at 1000", 2, x.state(1));
    }

    private static void planLotRefused() {
        Circuit x = new Circuit();
        for (int delay : new int[] {0, -1, 1001, LOWEST, HIGHEST}) {
            CHECK.due("planLot wrong delay", -3, x.planLot(delay, 1, 0, 0, 0));
        }
        for (int mass : new int[] {-1, 201, LOWEST, HIGHEST}) {
            CHECK.due("planLot wrong a", -3, x.planLot(1, mass, 1, 1, 1));
            CHECK.due("planLot wrong b", -3, x.planLot(1, 1, mass, 1, 1));
            CHECK.due("planLot wrong c", -3, x.planLot(1, 1, 1, mass, 1));
            CHECK.due("planLot wrong d", -3, x.planLot(1, 1, 1, 1, mass));
        }
        CHECK.due("planLot(1,0,0,0,0)", -3, x.planLot(1, 0, 0, 0, 0));
        CHECK.due("no lot was created", 0, x.total(1));
    }

    private static void tooManyLots() {
        Circuit x = new Circuit();
        for (int lot = 0; lot < 40; lot++) {
            CHECK.due("lot", lot, lot % 2 == 0 ? x.addLot(1, 0, 0, 0) : x.planLot(1, 0, 1, 0, 0));
        }
        CHECK.due("addLot beyond 40", -4, x.addLot(1, 0, 0, 0));
        CHECK.due("planLot beyond 40", -4, x.planLot(1, 1, 0, 0, 0));
        CHECK.due("addLot beyond 40, wrong", -3, x.addLot(0, 0, 0, 0));
        CHECK.due("planLot beyond 40, wrong", -3, x.planLot(0, 1, 0, 0, 0));
        CHECK.due("total(1)", 40, x.total(1));
        CHECK.due("state(40)", -2, x.state(40));
        x.advance(500);
        for (int lot = 0; lot < 40; lot++) {
            CHECK.due("done", 3, x.state(lot));
        }
        CHECK.due("addLot after all are done", -4, x.addLot(1, 0, 0, 0));
    }

    private static void advance() {
        Circuit x = new Circuit();
        for (int minutes : new int[] {0, -1, 501, LOWEST, HIGHEST}) {
            CHECK.due("advance wrong", -3, x.advance(minutes));
        }
        CHECK.due("advance(1)", 1, x.advance(1));
        CHECK.due("advance(500)", 501, x.advance(500));
        x.addLot(30, 0, 0, 0);
        x.advance(2);
        CHECK.due("not finished", 2, x.state(0));
        CHECK.due("time", 504, x.advance(1));
        CHECK.due("finished at the new time", 3, x.state(0));
        CHECK.due("mill", -7, x.mill(0));
        x.addLot(10, 0, 0, 0);
        x.addLot(20, 0, 0, 0);
        x.addLot(30, 0, 0, 0);
        x.advance(5);
        CHECK.due("several lots in one call", 3, x.mill(0));
        CHECK.due("minutes left", 1, x.mill(1));
    }

    /** At time 1 lot 0 finishes and returns before the planned lots come, the lower number first. */
    private static void orderAtOneTime() {
        Circuit x = new Circuit();
        x.setReturn(0, 10);
        x.addLot(10, 0, 0, 0);
        x.planLot(1, 20, 0, 0, 0);
        x.planLot(1, 30, 0, 0, 0);
        x.advance(1);
        CHECK.due("the returned lot came first", 0, x.mill(0));
        CHECK.due("bin(0)", 1, x.bin(0));
        CHECK.due("bin(1)", 2, x.bin(1));
        x.setRule(GrindingCircuit.HEAVIEST);
        x.planLot(1, 200, 0, 0, 0);
        x.advance(1);
        CHECK.due("planned lots come before the mill starts", 3, x.mill(0));
        CHECK.due("bin(0) by its rule", 2, x.bin(0));
        CHECK.due("bin(2) by its rule", 0, x.bin(2));
        laterPlanOfALowerTime();
    }

    private static void laterPlanOfALowerTime() {
        Circuit x = new Circuit();
        x.addLot(200, 0, 0, 0);
        x.planLot(5, 1, 0, 0, 0);
        x.planLot(4, 1, 0, 0, 0);
        x.planLot(5, 1, 0, 0, 0);
        x.advance(5);
        CHECK.due("came at 4", 2, x.bin(0));
        CHECK.due("came at 5, the lower number", 1, x.bin(1));
        CHECK.due("came at 5, the higher number", 3, x.bin(2));
    }

    private static void breakingRoundsDown() {
        Circuit x = new Circuit();
        x.setBreakage(0, 3, 3, 4);
        x.setReturn(0, 10);
        x.setReturn(1, 5);
        x.setReturn(3, 9);
        x.addLot(9, 1, 0, 0);
        x.advance(1);
        // Of 9: 2, 2 and 3 are broken, 2 stay.
        CHECK.due("mass(0,0)", 2, x.mass(0, 0));
        CHECK.due("mass(0,1)", 1, x.mass(0, 1));
        CHECK.due("mass(0,2)", 0, x.mass(0, 2));
        CHECK.due("mass(0,3)", 2, x.mass(0, 3));
        CHECK.due("mass(0,-1)", 5, x.mass(0, -1));
        CHECK.due("produced(0)", 0, x.produced(0));
        CHECK.due("produced(1)", 2, x.produced(1));
        CHECK.due("produced(2)", 2, x.produced(2));
        CHECK.due("produced(3)", 1, x.produced(3));
        CHECK.due("produced(-1)", 5, x.produced(-1));
        CHECK.due("total(3)", 5, x.total(3));
    }

    private static void brokenOreIsNotBrokenAgain() {
        Circuit x = new Circuit();
        x.setBreakage(0, 10, 0, 0);
        x.setBreakage(1, 10, 0, 0);
        x.setBreakage(2, 10, 0, 0);
        for (int size = 0; size < 4; size++) {
            x.setReturn(size, 10);
        }
        x.addLot(4, 3, 2, 1);
        x.advance(1);
        int[] due = {0, 4, 3, 3};
        for (int size = 0; size < 4; size++) {
            CHECK.due("mass(0," + size + ")", due[size], x.mass(0, size));
        }
        x.advance(1);
        CHECK.due("after two passes", 4, x.mass(0, 2));
        CHECK.due("after two passes", 6, x.mass(0, 3));
        CHECK.due("passes", 2, x.passes(0));
    }

    private static void settingsAtTheFinish() {
        Circuit x = new Circuit();
        x.addLot(100, 0, 0, 0);
        x.advance(9);
        x.setBreakage(0, 5, 0, 0);
        x.setReturn(1, 10);
        x.setWork(0, 7);
        CHECK.due("the masses are those before grinding", 100, x.mass(0, 0));
        CHECK.due("no energy yet", 0, x.total(2));
        x.advance(1);
        CHECK.due("the energy by the size before grinding", 700, x.total(2));
        CHECK.due("mass(0,1)", 50, x.mass(0, 1));
        CHECK.due("produced(0)", 50, x.produced(0));
    }

    private static void ruleHeaviest() {
        Circuit x = new Circuit();
        x.addLot(1, 0, 0, 0);
        x.addLot(50, 0, 0, 0);
        x.addLot(0, 20, 20, 20);
        x.addLot(0, 0, 0, 55);
        CHECK.due("first", 1, x.bin(0));
        x.setRule(GrindingCircuit.HEAVIEST);
        bin(x, 2, 3, 1);
        x.addLot(0, 57, 0, 0);
        bin(x, 2, 4, 3, 1);
        x.setRule(GrindingCircuit.FIRST);
        bin(x, 1, 2, 3, 4);
    }

    private static void ruleCoarsest() {
        Circuit x = new Circuit();
        x.setRule(GrindingCircuit.COARSEST);
        x.addLot(1, 0, 0, 0);
        x.addLot(5, 3, 2, 1);
        x.addLot(5, 3, 2, 2);
        x.addLot(5, 3, 3, 0);
        x.addLot(5, 4, 0, 0);
        x.addLot(6, 0, 0, 0);
        x.addLot(0, 200, 200, 200);
        bin(x, 5, 4, 3, 2, 1, 6);
    }

    private static void equalLotsByArrival() {
        Circuit x = new Circuit();
        x.setReturn(0, 10);
        x.addLot(10, 0, 0, 0);
        x.addLot(10, 0, 0, 0);
        x.addLot(10, 0, 0, 0);
        for (int rule = 0; rule < 3; rule++) {
            x.setRule(rule);
            bin(x, 1, 2);
        }
        x.advance(1);
        CHECK.due("mill", 1, x.mill(0));
        for (int rule = 0; rule < 3; rule++) {
            x.setRule(rule);
            bin(x, 2, 0);
        }
    }

    /** The lot in the mill is the last, so that lot 0 waits with all the others. */
    private static void fullBin() {
        Circuit x = new Circuit();
        for (int lot = 0; lot < 39; lot++) {
            x.planLot(2, 10 + lot / 2, 0, 0, 0);
        }
        x.addLot(200, 0, 0, 0);
        x.advance(2);
        int[] arrived = new int[39];
        int[] heaviest = new int[39];
        for (int index = 0; index < 39; index++) {
            arrived[index] = index;
            heaviest[index] = index == 0 ? 38 : index % 2 == 1 ? 37 - index : 39 - index;
        }
        bin(x, arrived);
        x.setRule(GrindingCircuit.HEAVIEST);
        bin(x, heaviest);
        x.setRule(GrindingCircuit.COARSEST);
        bin(x, heaviest);
    }

    private static void ruleWhenTheMillStarts() {
        for (int rule = 0; rule < 3; rule++) {
            Circuit x = new Circuit();
            x.setRule(rule);
            x.addLot(1, 0, 0, 0);
            x.addLot(0, 1, 0, 0);
            x.addLot(0, 0, 90, 0);
            x.addLot(2, 0, 0, 0);
            x.advance(1);
            CHECK.due("the first of the bin by rule " + rule, 1 + rule, x.mill(0));
        }
    }

    private static void bin(Circuit x, int... due) {
        CHECK.due("bin(-1)", due.length, x.bin(-1));
        for (int index = 0; index < due.length; index++) {
            CHECK.due("bin(" + index + ")", due[index], x.bin(index));
        }
        for (int index : new int[] {due.length, -2, LOWEST, HIGHEST}) {
            CHECK.due("bin(" + index + ")", -7, x.bin(index));
        }
    }

    private static void mill() {
        Circuit x = new Circuit();
        for (int what : new int[] {-1, 2, LOWEST, HIGHEST}) {
            CHECK.due("mill wrong, idle", -3, x.mill(what));
        }
        x.addLot(91, 0, 0, 0);
        for (int what : new int[] {-1, 2, LOWEST, HIGHEST}) {
            CHECK.due("mill wrong, busy", -3, x.mill(what));
        }
        CHECK.due("mill(0)", 0, x.mill(0));
        CHECK.due("mill(1)", 10, x.mill(1));
        x.advance(4);
        CHECK.due("mill(1) later", 6, x.mill(1));
        x.advance(6);
        CHECK.due("idle again", -7, x.mill(0));
        CHECK.due("idle again", -7, x.mill(1));
    }

    private static void wrongLots() {
        Circuit x = new Circuit();
        x.addLot(1, 2, 3, 4);
        for (int lot : new int[] {-1, 1, 39, 40, LOWEST, HIGHEST}) {
            CHECK.due("state", -2, x.state(lot));
            CHECK.due("passes", -2, x.passes(lot));
            CHECK.due("mass", -2, x.mass(lot, 0));
            CHECK.due("mass of a wrong lot and size", -2, x.mass(lot, 4));
        }
        for (int size : new int[] {-2, 4, LOWEST, HIGHEST}) {
            CHECK.due("mass of a wrong size", -1, x.mass(0, size));
            CHECK.due("produced of a wrong size", -1, x.produced(size));
        }
    }

    private static void totals() {
        Circuit x = new Circuit();
        for (int size = 0; size < 4; size++) {
            x.setWork(size, 1 + size);
        }
        x.setReturn(3, 5);
        x.addLot(1, 2, 3, 4);
        x.planLot(100, 0, 0, 0, 200);
        x.advance(1);
        CHECK.due("total(0)", 1, x.total(0));
        CHECK.due("total(1)", 2, x.total(1));
        CHECK.due("total(2)", 30, x.total(2));
        CHECK.due("total(3)", 2, x.total(3));
        x.advance(1);
        CHECK.due("total(2) adds up", 38, x.total(2));
        CHECK.due("total(3) adds up", 3, x.total(3));
        x.advance(1);
        CHECK.due("done", 3, x.state(0));
        CHECK.due("passes", 3, x.passes(0));
        CHECK.due("mass of a lot that is done", 0, x.mass(0, -1));
        CHECK.due("total(3) at last", 3, x.total(3));
        CHECK.due("produced(-1)", 10, x.produced(-1));
        for (int what : new int[] {-1, 4, LOWEST, HIGHEST}) {
            CHECK.due("total wrong", -3, x.total(what));
        }
    }
}
