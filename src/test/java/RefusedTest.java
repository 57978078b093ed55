/**
 * Every error of every promise: the first values outside on each side, the smallest and the
 * largest int, two errors at once; and after each such call, that nothing has changed.
 */
public final class RefusedTest {
    private static final Check CHECK = new Check();
    private static final int LOWEST = Integer.MIN_VALUE;
    private static final int HIGHEST = Integer.MAX_VALUE;
    private static final int NO_SUCH_SIZE = -1;
    private static final int NO_SUCH_LOT = -2;
    private static final int BAD_VALUE = -3;
    private static final int TOO_MANY = -4;
    private static final int NO_STEADY_STATE = -5;
    private static final int NOT_SAVED = -6;
    private static final int NONE = -7;

    public static void main(String[] args) {
        breakageOfNoSize();
        breakageShareOutside();
        breakageSumAboveTen();
        breakageToNoSize();
        shareOfNoSize();
        valueOfNoSize();
        valueOutside();
        fractionOfNoSize();
        fractionOfNoPart();
        noSteadyState();
        cutOutside();
        limitOutside();
        noneOnlyWithoutError();
        lotMassOutside();
        lotWithoutMass();
        delayOutside();
        tooManyLots();
        minutesOutside();
        rateOutside();
        ruleOutside();
        binOutside();
        millOutside();
        lotNotCreated();
        massOfNoSize();
        producedOfNoSize();
        totalOutside();
        slotOutside();
        notSaved();
        CHECK.end();
    }

    private static int[] outside(int least, int greatest) {
        return new int[] {LOWEST, least - 1, greatest + 1, HIGHEST};
    }

    /** The error is due in every scene, so also where a later one of the description applies too. */
    private static void refused(int due, String name, int... arguments) {
        for (Scene scene : Scene.values()) {
            scene.keeps(CHECK, due, name, arguments);
        }
    }

    /** Promise 2: "NO_SUCH_SIZE if the size is not 0 to 3", listed before BAD_VALUE. */
    private static void breakageOfNoSize() {
        for (int size : outside(0, 3)) {
            refused(NO_SUCH_SIZE, "setBreakage", size, 0, 0, 0);
            refused(NO_SUCH_SIZE, "setBreakage", size, 1, 0, 0);
            refused(NO_SUCH_SIZE, "setBreakage", size, 11, 0, 0);
            refused(NO_SUCH_SIZE, "setBreakage", size, 0, -1, 0);
            refused(NO_SUCH_SIZE, "setBreakage", size, 4, 4, 3);
            refused(NO_SUCH_SIZE, "setBreakage", size, 0, 0, HIGHEST);
        }
    }

    /** Promise 2: "BAD_VALUE if a share is not 0 to 10". */
    private static void breakageShareOutside() {
        for (int size = 0; size < 4; size++) {
            for (int place = 1; place <= 3; place++) {
                for (int share : outside(0, 10)) {
                    int[] arguments = {size, 0, 0, 0};
                    arguments[place] = share;
                    refused(BAD_VALUE, "setBreakage", arguments);
                }
            }
        }
        // A sum of 10 does not mend a share that is out of range.
        refused(BAD_VALUE, "setBreakage", 0, 11, -1, 0);
        refused(BAD_VALUE, "setBreakage", 0, -1, 11, 0);
        refused(BAD_VALUE, "setBreakage", 0, 0, -1, 11);
        refused(BAD_VALUE, "setBreakage", 1, 11, -1, 0);
    }

    /** Promise 2: "BAD_VALUE if .. the sum of the shares is above 10", where an int's sum wraps too. */
    private static void breakageSumAboveTen() {
        int[][] wrong = {{0, 10, 1, 0}, {0, 10, 0, 1}, {0, 1, 10, 0}, {0, 0, 10, 1}, {0, 0, 1, 10}, {0, 1, 0, 10},
            {0, 4, 4, 3}, {0, 10, 10, 10}, {1, 10, 1, 0}, {1, 1, 10, 0}, {1, 6, 5, 0}, {1, 10, 10, 0},
            {0, HIGHEST, HIGHEST, 2}, {0, LOWEST, LOWEST, 0}, {0, LOWEST, HIGHEST, 1}, {1, LOWEST, LOWEST, 0}};
        for (int[] arguments : wrong) {
            refused(BAD_VALUE, "setBreakage", arguments);
        }
    }

    /** Promise 2: "BAD_VALUE if .. a share to a size that does not exist is not 0". */
    private static void breakageToNoSize() {
        for (int size = 1; size < 4; size++) {
            for (int finer = 4 - size; finer <= 3; finer++) {
                for (int share : new int[] {1, 10}) {
                    int[] arguments = {size, 0, 0, 0};
                    arguments[finer] = share;
                    refused(BAD_VALUE, "setBreakage", arguments);
                }
            }
        }
        refused(BAD_VALUE, "setBreakage", 1, 5, 4, 1);
        refused(BAD_VALUE, "setBreakage", 2, 5, 1, 0);
        refused(BAD_VALUE, "setBreakage", 2, 5, 0, 1);
    }

    /** Promise 3: "NO_SUCH_SIZE if one of the sizes is not 0 to 3". */
    private static void shareOfNoSize() {
        for (int wrong : outside(0, 3)) {
            for (int size = 0; size < 4; size++) {
                refused(NO_SUCH_SIZE, "share", wrong, size);
                refused(NO_SUCH_SIZE, "share", size, wrong);
            }
            for (int other : outside(0, 3)) {
                refused(NO_SUCH_SIZE, "share", wrong, other);
            }
        }
    }

    /** Promises 4 to 6: "NO_SUCH_SIZE if the size is not 0 to 3", listed before BAD_VALUE. */
    private static void valueOfNoSize() {
        for (int size : outside(0, 3)) {
            for (int value : new int[] {LOWEST, -1, 0, 5, 11, 101, 1001, HIGHEST}) {
                refused(NO_SUCH_SIZE, "setReturn", size, value);
                refused(NO_SUCH_SIZE, "setWork", size, value);
                refused(NO_SUCH_SIZE, "setFeed", size, value);
            }
        }
    }

    /** Promises 4 to 6: "BAD_VALUE if the share (the work, the mass) is out of range". */
    private static void valueOutside() {
        for (int size = 0; size < 4; size++) {
            for (int share : outside(0, 10)) {
                refused(BAD_VALUE, "setReturn", size, share);
            }
            for (int work : outside(0, 100)) {
                refused(BAD_VALUE, "setWork", size, work);
            }
            for (int mass : outside(0, 1000)) {
                refused(BAD_VALUE, "setFeed", size, mass);
            }
        }
    }

    /** Promises 7 and 8: "NO_SUCH_SIZE if the size is not 0 to 3", before BAD_VALUE and NO_STEADY_STATE. */
    private static void fractionOfNoSize() {
        for (int size : outside(0, 3)) {
            for (int part : new int[] {LOWEST, -1, 0, 1, 2, HIGHEST}) {
                refused(NO_SUCH_SIZE, "load", size, part);
                refused(NO_SUCH_SIZE, "product", size, part);
            }
        }
    }

    /** Promises 7 to 11: "BAD_VALUE if part is neither 0 nor 1", before NO_STEADY_STATE. */
    private static void fractionOfNoPart() {
        for (int part : outside(0, 1)) {
            for (int size = 0; size < 4; size++) {
                refused(BAD_VALUE, "load", size, part);
                refused(BAD_VALUE, "product", size, part);
            }
            refused(BAD_VALUE, "circulatingLoad", part);
            refused(BAD_VALUE, "power", part);
            for (int cut = 0; cut <= 4; cut++) {
                refused(BAD_VALUE, "cutPower", cut, part);
            }
        }
    }

    /** Promises 7 to 11: "NO_STEADY_STATE if there is no steady state", for every size and part. */
    private static void noSteadyState() {
        for (int part = 0; part < 2; part++) {
            for (int size = 0; size < 4; size++) {
                Scene.STUCK.keeps(CHECK, NO_STEADY_STATE, "load", size, part);
                Scene.STUCK.keeps(CHECK, NO_STEADY_STATE, "product", size, part);
            }
            Scene.STUCK.keeps(CHECK, NO_STEADY_STATE, "circulatingLoad", part);
            Scene.STUCK.keeps(CHECK, NO_STEADY_STATE, "power", part);
            Scene.STUCK.keeps(CHECK, NO_STEADY_STATE, "cutPower", 4, part);
            Scene.STUCK.keeps(CHECK, 1, "cutPower", 3, part);
            Scene.BUSY.keeps(CHECK, NO_STEADY_STATE, "cutPower", 4, part);
        }
    }

    /** Promise 11: "BAD_VALUE if the cut is not 0 to 4 or part is neither 0 nor 1". */
    private static void cutOutside() {
        for (int cut : outside(0, 4)) {
            for (int part : new int[] {LOWEST, -1, 0, 1, 2, HIGHEST}) {
                refused(BAD_VALUE, "cutPower", cut, part);
            }
        }
    }

    /** Promise 12: "BAD_VALUE if the limit is out of range". */
    private static void limitOutside() {
        for (int limit : outside(0, 1000000000)) {
            refused(BAD_VALUE, "finestCut", limit);
        }
    }

    /** Conventions: "NONE is not an error: it is returned only if no error applies". */
    private static void noneOnlyWithoutError() {
        Scene.NEW.keeps(CHECK, NONE, "circulatingLoad", 0);
        Scene.NEW.keeps(CHECK, NONE, "circulatingLoad", 1);
        Scene.NEW.keeps(CHECK, BAD_VALUE, "circulatingLoad", -1);
        Scene.NEW.keeps(CHECK, BAD_VALUE, "circulatingLoad", 2);
        Scene.STUCK.keeps(CHECK, NONE, "finestCut", 0);
        Scene.STUCK.keeps(CHECK, BAD_VALUE, "finestCut", -1);
        Scene.NEW.keeps(CHECK, NONE, "mill", 0);
        Scene.NEW.keeps(CHECK, NONE, "mill", 1);
        Scene.NEW.keeps(CHECK, BAD_VALUE, "mill", -1);
        Scene.NEW.keeps(CHECK, BAD_VALUE, "mill", 2);
    }

    /** Promises 13 and 14: "BAD_VALUE if a mass is out of range", before TOO_MANY. */
    private static void lotMassOutside() {
        for (int mass : outside(0, 200)) {
            for (int place = 0; place < 4; place++) {
                for (int others : new int[] {0, 1, 200}) {
                    int[] masses = {others, others, others, others};
                    masses[place] = mass;
                    refused(BAD_VALUE, "addLot", masses);
                    refused(BAD_VALUE, "planLot", 1, masses[0], masses[1], masses[2], masses[3]);
                }
            }
        }
        // A sum within bounds does not mend a mass that is out of range.
        refused(BAD_VALUE, "addLot", -1, 2, 0, 0);
        refused(BAD_VALUE, "addLot", 201, -1, 0, 0);
        refused(BAD_VALUE, "addLot", LOWEST, LOWEST, 1, 0);
        refused(BAD_VALUE, "planLot", 1, -1, 2, 0, 0);
        refused(BAD_VALUE, "planLot", 1, 201, -1, 0, 0);
        refused(BAD_VALUE, "planLot", 1, LOWEST, LOWEST, 1, 0);
    }

    /** Promises 13 and 14: "BAD_VALUE if .. all (masses) are 0", before TOO_MANY. */
    private static void lotWithoutMass() {
        refused(BAD_VALUE, "addLot", 0, 0, 0, 0);
        refused(BAD_VALUE, "planLot", 1, 0, 0, 0, 0);
        refused(BAD_VALUE, "planLot", 1000, 0, 0, 0, 0);
    }

    /** Promise 14: "BAD_VALUE if the delay .. is out of range", before TOO_MANY. */
    private static void delayOutside() {
        for (int delay : outside(1, 1000)) {
            refused(BAD_VALUE, "planLot", delay, 1, 0, 0, 0);
            refused(BAD_VALUE, "planLot", delay, 200, 200, 200, 200);
            refused(BAD_VALUE, "planLot", delay, 0, 0, 0, 0);
            refused(BAD_VALUE, "planLot", delay, 0, 0, 0, 201);
        }
        refused(BAD_VALUE, "planLot", -1, 1, 0, 0, 0);
    }

    /** Promises 13 and 14: "TOO_MANY if 40 lots were created". */
    private static void tooManyLots() {
        Scene.FULL.keeps(CHECK, TOO_MANY, "addLot", 1, 0, 0, 0);
        Scene.FULL.keeps(CHECK, TOO_MANY, "addLot", 0, 0, 0, 1);
        Scene.FULL.keeps(CHECK, TOO_MANY, "addLot", 200, 200, 200, 200);
        Scene.FULL.keeps(CHECK, TOO_MANY, "planLot", 1, 1, 0, 0, 0);
        Scene.FULL.keeps(CHECK, TOO_MANY, "planLot", 1000, 200, 200, 200, 200);
    }

    /** Promise 15: "BAD_VALUE if the number of minutes is out of range". */
    private static void minutesOutside() {
        for (int minutes : outside(1, 500)) {
            refused(BAD_VALUE, "advance", minutes);
        }
        refused(BAD_VALUE, "advance", -1);
    }

    /** Promise 16: "BAD_VALUE if the rate is out of range". */
    private static void rateOutside() {
        for (int rate : outside(1, 100)) {
            refused(BAD_VALUE, "setRate", rate);
        }
        refused(BAD_VALUE, "setRate", -1);
    }

    /** Promise 17: "BAD_VALUE if there is no such rule". */
    private static void ruleOutside() {
        for (int rule : outside(0, 2)) {
            refused(BAD_VALUE, "setRule", rule);
        }
    }

    /** Promise 18: "NONE if there is no such index". */
    private static void binOutside() {
        for (int index : new int[] {LOWEST, -2, 39, 40, HIGHEST}) {
            refused(NONE, "bin", index);
        }
        Scene.NEW.keeps(CHECK, 0, "bin", -1);
        Scene.NEW.keeps(CHECK, NONE, "bin", 0);
        Scene.STUCK.keeps(CHECK, 0, "bin", -1);
        Scene.STUCK.keeps(CHECK, NONE, "bin", 0);
        Scene.FULL.keeps(CHECK, 24, "bin", -1);
        Scene.FULL.keeps(CHECK, 34, "bin", 23);
        Scene.FULL.keeps(CHECK, NONE, "bin", 24);
    }

    /** Promise 19: "BAD_VALUE if what is neither 0 nor 1", also while the mill is idle. */
    private static void millOutside() {
        for (int what : outside(0, 1)) {
            refused(BAD_VALUE, "mill", what);
        }
    }

    /** Promises 20 to 22: "NO_SUCH_LOT if (the lot) was not created"; for mass before NO_SUCH_SIZE. */
    private static void lotNotCreated() {
        for (int lot : new int[] {LOWEST, -2, -1, 40, 41, HIGHEST}) {
            refused(NO_SUCH_LOT, "state", lot);
            refused(NO_SUCH_LOT, "passes", lot);
            for (int size : new int[] {LOWEST, -2, -1, 0, 3, 4, HIGHEST}) {
                refused(NO_SUCH_LOT, "mass", lot, size);
            }
        }
        firstNotCreated(Scene.NEW, 0);
        firstNotCreated(Scene.STUCK, 1);
        firstNotCreated(Scene.BUSY, 6);
        firstNotCreated(Scene.FULL, 40);
    }

    private static void firstNotCreated(Scene scene, int lot) {
        scene.keeps(CHECK, lot, "total", 1);
        scene.keeps(CHECK, NO_SUCH_LOT, "state", lot);
        scene.keeps(CHECK, NO_SUCH_LOT, "passes", lot);
        scene.keeps(CHECK, NO_SUCH_LOT, "mass", lot, -1);
        scene.keeps(CHECK, NO_SUCH_LOT, "mass", lot, 4);
        if (lot > 0) {
            scene.keeps(CHECK, 0, "state", lot - 1);
            scene.keeps(CHECK, 0, "passes", lot - 1);
        }
    }

    /** Promise 21: "NO_SUCH_SIZE if the size is not -1 to 3", in every state of a lot. */
    private static void massOfNoSize() {
        for (int size : outside(-1, 3)) {
            for (int lot = 0; lot < 6; lot++) {
                Scene.BUSY.keeps(CHECK, NO_SUCH_SIZE, "mass", lot, size);
            }
            Scene.FULL.keeps(CHECK, NO_SUCH_SIZE, "mass", 0, size);
            Scene.FULL.keeps(CHECK, NO_SUCH_SIZE, "mass", 39, size);
        }
    }

    /** Promise 23: "NO_SUCH_SIZE if the size is not -1 to 3". */
    private static void producedOfNoSize() {
        for (int size : outside(-1, 3)) {
            refused(NO_SUCH_SIZE, "produced", size);
        }
    }

    /** Promise 24: "BAD_VALUE if what is not 0 to 3". */
    private static void totalOutside() {
        for (int what : outside(0, 3)) {
            refused(BAD_VALUE, "total", what);
        }
    }

    /** Promises 25 and 26: "BAD_VALUE if the slot does not exist", also where nothing is saved. */
    private static void slotOutside() {
        for (int slot : outside(0, 1)) {
            refused(BAD_VALUE, "save", slot);
            refused(BAD_VALUE, "restore", slot);
        }
    }

    /** Promise 26: "NOT_SAVED if nothing was saved in it", also where the other slot is filled. */
    private static void notSaved() {
        Scene.NEW.keeps(CHECK, NOT_SAVED, "restore", 0);
        Scene.NEW.keeps(CHECK, NOT_SAVED, "restore", 1);
        Scene.STUCK.keeps(CHECK, NOT_SAVED, "restore", 0);
        Scene.STUCK.keeps(CHECK, NOT_SAVED, "restore", 1);
        Scene.FULL.keeps(CHECK, NOT_SAVED, "restore", 1);
    }
}
