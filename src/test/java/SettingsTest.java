/** Promises 2 to 6, 16 and 17: the settings, their edges, and that a refused call changes nothing. */
public final class SettingsTest {
    private static final Check CHECK = new Check();
    private static final int LOWEST = Integer.MIN_VALUE;
    private static final int HIGHEST = Integer.MAX_VALUE;

    public static void main(String[] args) {
        setBreakage();
        setBreakageRefused();
        share();
        setReturn();
        setWork();
        setFeed();
        setRate();
        setRule();
        CHECK.end();
    }

    private static void setBreakage() {
        Circuit x = new Circuit();
        CHECK.due("setBreakage(0,3,2,1)", 4, x.setBreakage(0, 3, 2, 1));
        shares(x, 0, 4, 3, 2, 1);
        CHECK.due("setBreakage(0,0,0,10)", 0, x.setBreakage(0, 0, 0, 10));
        shares(x, 0, 0, 0, 0, 10);
        CHECK.due("setBreakage(0,4,3,3)", 0, x.setBreakage(0, 4, 3, 3));
        shares(x, 0, 0, 4, 3, 3);
        CHECK.due("setBreakage(0,0,0,0)", 10, x.setBreakage(0, 0, 0, 0));
        shares(x, 0, 10, 0, 0, 0);
        CHECK.due("setBreakage(1,2,7,0)", 1, x.setBreakage(1, 2, 7, 0));
        shares(x, 1, 0, 1, 2, 7);
        CHECK.due("setBreakage(2,10,0,0)", 0, x.setBreakage(2, 10, 0, 0));
        shares(x, 2, 0, 0, 0, 10);
        CHECK.due("setBreakage(3,0,0,0)", 10, x.setBreakage(3, 0, 0, 0));
        shares(x, 3, 0, 0, 0, 10);
        shares(x, 0, 10, 0, 0, 0);
        shares(x, 1, 0, 1, 2, 7);
    }

    private static void setBreakageRefused() {
        Circuit x = new Circuit();
        x.setBreakage(0, 1, 2, 3);
        x.setBreakage(1, 4, 1, 0);
        for (int size : new int[] {-1, 4, LOWEST, HIGHEST}) {
            CHECK.due("setBreakage of a wrong size", -1, x.setBreakage(size, 0, 0, 0));
            CHECK.due("setBreakage of a wrong size and share", -1, x.setBreakage(size, 11, -1, 99));
        }
        for (int share : new int[] {-1, 11, LOWEST, HIGHEST}) {
            CHECK.due("setBreakage wrong one", -3, x.setBreakage(0, share, 0, 0));
            CHECK.due("setBreakage wrong two", -3, x.setBreakage(0, 0, share, 0));
            CHECK.due("setBreakage wrong three", -3, x.setBreakage(0, 0, 0, share));
        }
        CHECK.due("setBreakage(0,11,-1,0)", -3, x.setBreakage(0, 11, -1, 0));
        CHECK.due("setBreakage(0,4,4,3)", -3, x.setBreakage(0, 4, 4, 3));
        CHECK.due("setBreakage(1,6,5,0)", -3, x.setBreakage(1, 6, 5, 0));
        CHECK.due("setBreakage sum wraps", -3, x.setBreakage(0, HIGHEST, HIGHEST, 2));
        CHECK.due("setBreakage(1,0,0,1)", -3, x.setBreakage(1, 0, 0, 1));
        CHECK.due("setBreakage(2,0,1,0)", -3, x.setBreakage(2, 0, 1, 0));
        CHECK.due("setBreakage(2,0,0,1)", -3, x.setBreakage(2, 0, 0, 1));
        CHECK.due("setBreakage(3,1,0,0)", -3, x.setBreakage(3, 1, 0, 0));
        CHECK.due("setBreakage(3,0,1,0)", -3, x.setBreakage(3, 0, 1, 0));
        CHECK.due("setBreakage(3,0,0,1)", -3, x.setBreakage(3, 0, 0, 1));
        shares(x, 0, 4, 1, 2, 3);
        shares(x, 1, 0, 5, 4, 1);
        shares(x, 2, 0, 0, 10, 0);
        shares(x, 3, 0, 0, 0, 10);
    }

    private static void shares(Circuit x, int from, int... due) {
        for (int to = 0; to < 4; to++) {
            CHECK.due("share(" + from + "," + to + ")", due[to], x.share(from, to));
        }
    }

    private static void share() {
        Circuit x = new Circuit();
        x.setBreakage(0, 1, 2, 3);
        for (int from = -2; from < 6; from++) {
            for (int to = -2; to < 6; to++) {
                boolean wrong = from < 0 || from > 3 || to < 0 || to > 3;
                if (wrong) {
                    CHECK.due("share(" + from + "," + to + ")", -1, x.share(from, to));
                } else if (to < from) {
                    CHECK.due("share(" + from + "," + to + ")", 0, x.share(from, to));
                }
            }
        }
        CHECK.due("share of the lowest", -1, x.share(LOWEST, 0));
        CHECK.due("share to the highest", -1, x.share(0, HIGHEST));
    }

    private static void setReturn() {
        Circuit x = new Circuit();
        for (int size = 0; size < 4; size++) {
            CHECK.due("setReturn to 10", 0, x.setReturn(size, 10));
            CHECK.due("setReturn to 1 + size", 10, x.setReturn(size, 1 + size));
        }
        for (int size : new int[] {-1, 4, LOWEST, HIGHEST}) {
            CHECK.due("setReturn of a wrong size", -1, x.setReturn(size, 5));
            CHECK.due("setReturn of a wrong size and share", -1, x.setReturn(size, 11));
        }
        for (int share : new int[] {-1, 11, LOWEST, HIGHEST}) {
            CHECK.due("setReturn to a wrong share", -3, x.setReturn(2, share));
        }
        for (int size = 0; size < 4; size++) {
            CHECK.due("setReturn to 0", 1 + size, x.setReturn(size, 0));
        }
    }

    private static void setWork() {
        Circuit x = new Circuit();
        for (int size = 0; size < 4; size++) {
            CHECK.due("setWork to 0", 1, x.setWork(size, 0));
            CHECK.due("setWork to 100", 0, x.setWork(size, 100));
            CHECK.due("setWork to 20 + size", 100, x.setWork(size, 20 + size));
        }
        for (int size : new int[] {-1, 4, LOWEST, HIGHEST}) {
            CHECK.due("setWork of a wrong size", -1, x.setWork(size, 5));
            CHECK.due("setWork of a wrong size and work", -1, x.setWork(size, 101));
        }
        for (int work : new int[] {-1, 101, LOWEST, HIGHEST}) {
            CHECK.due("setWork to a wrong work", -3, x.setWork(1, work));
        }
        for (int size = 0; size < 4; size++) {
            CHECK.due("setWork again", 20 + size, x.setWork(size, 1));
        }
    }

    private static void setFeed() {
        Circuit x = new Circuit();
        for (int size = 0; size < 4; size++) {
            CHECK.due("setFeed to 1000", 0, x.setFeed(size, 1000));
            CHECK.due("setFeed to 30 + size", 1000, x.setFeed(size, 30 + size));
        }
        for (int size : new int[] {-1, 4, LOWEST, HIGHEST}) {
            CHECK.due("setFeed of a wrong size", -1, x.setFeed(size, 5));
            CHECK.due("setFeed of a wrong size and mass", -1, x.setFeed(size, 1001));
        }
        for (int mass : new int[] {-1, 1001, LOWEST, HIGHEST}) {
            CHECK.due("setFeed to a wrong mass", -3, x.setFeed(3, mass));
        }
        for (int size = 0; size < 4; size++) {
            CHECK.due("setFeed to 0", 30 + size, x.setFeed(size, 0));
        }
    }

    private static void setRate() {
        Circuit x = new Circuit();
        CHECK.due("setRate(1)", 10, x.setRate(1));
        CHECK.due("setRate(100)", 1, x.setRate(100));
        for (int rate : new int[] {0, -1, 101, LOWEST, HIGHEST}) {
            CHECK.due("setRate to a wrong rate", -3, x.setRate(rate));
        }
        CHECK.due("setRate(7)", 100, x.setRate(7));
        x.addLot(200, 0, 0, 0);
        CHECK.due("rounded up", 29, x.mill(1));
        x.setRate(100);
        CHECK.due("a lot that is ground is not affected", 29, x.mill(1));
        x.addLot(0, 0, 0, 200);
        x.advance(29);
        CHECK.due("the next lot has the new rate", 2, x.mill(1));
        CHECK.due("setRate(1)", 100, x.setRate(1));
        x.addLot(200, 200, 200, 200);
        x.advance(2);
        CHECK.due("the slowest", 800, x.mill(1));
    }

    private static void setRule() {
        Circuit x = new Circuit();
        CHECK.due("setRule(2)", 0, x.setRule(GrindingCircuit.COARSEST));
        CHECK.due("setRule(1)", 2, x.setRule(GrindingCircuit.HEAVIEST));
        for (int rule : new int[] {-1, 3, LOWEST, HIGHEST}) {
            CHECK.due("setRule to a wrong rule", -3, x.setRule(rule));
        }
        CHECK.due("setRule(0)", 1, x.setRule(GrindingCircuit.FIRST));
        CHECK.due("setRule(0) again", 0, x.setRule(GrindingCircuit.FIRST));
    }
}
