/** Promises 13 to 24: the bin's order, what happens when the mill finishes a lot, and the order at one time. */
public final class SimulationEdgesTest {
    private static final Check CHECK = new Check();

    public static void main(String[] args) {
        minutesRoundUp();
        rateAtTheStart();
        rateOfALotThatReturns();
        lotIsGroundUntilItsTime();
        upToTheNewTime();
        oneCallOrMany();
        idleMillStartsAtOnce();
        busyMillLetsLotsWait();
        energyBeforeGrinding();
        energyOfNoWorkAndOfTheMost();
        energyUpToTheGreatestInt();
        brokenRoundsDown();
        brokenToEachFinerSize();
        notBrokenAgain();
        returnedRoundsDown();
        returnsAfterBreaking();
        doneIfNothingIsReturned();
        onePassMore();
        settingsAtTheFinish();
        massesBeforeGrinding();
        finishThenPlannedLots();
        plannedLotsByTheirNumbers();
        plannedLotsThenStart();
        startAtTheTimeOfTheFinish();
        plannedLotForAnIdleMill();
        addedLotComesAfterAll();
        firstInOrderOfComing();
        heaviestByTotalMass();
        heaviestByTheMassesNow();
        coarsestSizeBySize();
        equalByTheRule();
        returnedLotIsTheLast();
        fullBin();
        ruleOfTheBinNow();
        ruleLeavesTheMill();
        totalsOfSeveralLots();
        CHECK.end();
    }

    private static void bin(String when, Circuit x, int... due) {
        CHECK.due(when + ": bin(-1)", due.length, x.bin(-1));
        for (int index = 0; index < due.length; index++) {
            CHECK.due(when + ": bin(" + index + ")", due[index], x.bin(index));
        }
        CHECK.due(when + ": bin(" + due.length + ")", -7, x.bin(due.length));
    }

    private static void masses(String when, Circuit x, int lot, int... due) {
        for (int size = 0; size < 4; size++) {
            CHECK.due(when + ": mass(" + lot + "," + size + ")", due[size], x.mass(lot, size));
        }
    }

    private static void returnAll(Circuit x) {
        for (int size = 0; size < 4; size++) {
            x.setReturn(size, 10);
        }
    }

    /** "(total mass) / rate minutes, rounded up", for every total mass. */
    private static void minutesRoundUp() {
        for (int rate : new int[] {1, 2, 3, 9, 10, 11, 50, 99, 100}) {
            for (int total = 1; total <= 800; total++) {
                Circuit x = new Circuit();
                x.setRate(rate);
                x.addLot(total / 4, (total + 1) / 4, (total + 2) / 4, (total + 3) / 4);
                int whole = total / rate;
                CHECK.due(total + " kilograms by " + rate, whole * rate == total ? whole : whole + 1, x.mill(1));
            }
        }
        int[][] edges = {{1, 100, 1}, {99, 100, 1}, {100, 100, 1}, {101, 100, 2}, {1, 1, 1}, {200, 1, 200}, {199, 100, 2},
            {200, 100, 2}, {9, 10, 1}, {10, 10, 1}, {11, 10, 2}};
        for (int[] row : edges) {
            Circuit x = new Circuit();
            x.setRate(row[1]);
            x.addLot(0, 0, row[0], 0);
            CHECK.due(row[0] + " kilograms by " + row[1], row[2], x.mill(1));
        }
    }

    /** "with the rate at this moment": when the mill starts, not when the lot was created. */
    private static void rateAtTheStart() {
        Circuit x = new Circuit();
        x.addLot(100, 0, 0, 0);
        x.addLot(100, 0, 0, 0);
        x.planLot(5, 100, 0, 0, 0);
        x.setRate(50);
        CHECK.due("being ground: not affected", 10, x.mill(1));
        x.advance(9);
        CHECK.due("being ground: not affected later", 1, x.mill(1));
        x.advance(1);
        CHECK.due("the next one by the new rate", 2, x.mill(1));
        x.setRate(1);
        CHECK.due("being ground: not affected again", 2, x.mill(1));
        x.advance(2);
        CHECK.due("the planned one by the newest rate", 100, x.mill(1));
    }

    private static void rateOfALotThatReturns() {
        Circuit x = new Circuit();
        x.setReturn(0, 10);
        x.addLot(100, 0, 0, 0);
        x.advance(5);
        x.setRate(3);
        x.advance(5);
        CHECK.due("the second pass", 34, x.mill(1));
    }

    private static void lotIsGroundUntilItsTime() {
        Circuit x = new Circuit();
        x.addLot(0, 0, 0, 95);
        for (int left = 10; left >= 1; left--) {
            CHECK.due("minutes left", left, x.mill(1));
            CHECK.due("in the mill", 2, x.state(0));
            CHECK.due("no pass yet", 0, x.passes(0));
            CHECK.due("no product yet", 0, x.produced(-1));
            x.advance(1);
        }
        CHECK.due("done", 3, x.state(0));
        CHECK.due("one pass", 1, x.passes(0));
        CHECK.due("product", 95, x.produced(3));
    }

    /** Promise 15: "everything that happens after the present time and up to the new time". */
    private static void upToTheNewTime() {
        Circuit x = new Circuit();
        x.planLot(100, 10, 0, 0, 0);
        x.planLot(101, 10, 0, 0, 0);
        x.advance(99);
        CHECK.due("a minute before", 0, x.state(0));
        x.advance(1);
        CHECK.due("at the new time", 2, x.state(0));
        CHECK.due("after the new time", 0, x.state(1));
        x.advance(1);
        CHECK.due("finished at the new time", 3, x.state(0));
        CHECK.due("and the next came", 2, x.state(1));
        x.planLot(500, 1, 0, 0, 0);
        x.advance(500);
        CHECK.due("500 minutes later", 2, x.state(2));
        x.planLot(501, 1, 0, 0, 0);
        x.advance(500);
        CHECK.due("501 minutes are one more", 0, x.state(3));
    }

    private static void oneCallOrMany() {
        Circuit once = Scene.BUSY.make();
        Circuit often = Scene.BUSY.make();
        once.advance(90);
        for (int minute = 0; minute < 90; minute++) {
            often.advance(1);
        }
        CHECK.holds("90 minutes at once or one by one", State.whole(once).equals(State.whole(often)));
    }

    /** Promise 13: "If the mill is idle, it starts the first lot of the bin at once". */
    private static void idleMillStartsAtOnce() {
        for (int rule = 0; rule < 3; rule++) {
            Circuit x = new Circuit();
            x.setRule(rule);
            x.addLot(5, 0, 0, 0);
            CHECK.due("a new object's mill starts", 0, x.mill(0));
            CHECK.due("state", 2, x.state(0));
            bin("started", x);
            x.advance(1);
            CHECK.due("idle", -7, x.mill(0));
            x.addLot(0, 0, 0, 1);
            CHECK.due("idle again: it starts", 1, x.mill(0));
            CHECK.due("at the present time", 1, x.mill(1));
            CHECK.due("no time passes", 1, x.total(0));
        }
    }

    private static void busyMillLetsLotsWait() {
        for (int rule = 0; rule < 3; rule++) {
            Circuit x = new Circuit();
            x.setRule(rule);
            x.addLot(0, 0, 0, 1);
            x.addLot(200, 200, 200, 200);
            CHECK.due("the lot in the mill stays", 0, x.mill(0));
            CHECK.due("the heavier one waits", 1, x.state(1));
            bin("busy", x, 1);
            CHECK.due("planned lots are not in the bin", 2, x.planLot(1, 1, 1, 1, 1));
            CHECK.due("planned", 0, x.state(2));
            bin("busy", x, 1);
        }
    }

    /** Sizes: the work "depends on the size before grinding"; 1.: "the sum over all sizes of work * mass". */
    private static void energyBeforeGrinding() {
        Circuit x = new Circuit();
        x.setBreakage(0, 10, 0, 0);
        x.setBreakage(1, 10, 0, 0);
        x.setBreakage(2, 10, 0, 0);
        int[] works = {2, 30, 5, 70};
        for (int size = 0; size < 4; size++) {
            x.setWork(size, works[size]);
        }
        x.addLot(1, 2, 3, 4);
        x.advance(1);
        CHECK.due("energy of the sizes before", 2 + 60 + 15 + 280, x.total(2));
        for (int size = 0; size < 4; size++) {
            int[] one = new int[4];
            one[size] = 1;
            int before = x.total(2);
            x.addLot(one[0], one[1], one[2], one[3]);
            x.advance(1);
            CHECK.due("energy of one kilogram of size " + size, works[size], x.total(2) - before);
        }
    }

    private static void energyOfNoWorkAndOfTheMost() {
        for (int work : new int[] {0, 100}) {
            Circuit x = new Circuit();
            for (int size = 0; size < 4; size++) {
                x.setWork(size, work);
            }
            x.addLot(200, 200, 200, 200);
            x.advance(80);
            CHECK.due("energy by work " + work, 800 * work, x.total(2));
        }
    }

    /** The document names no bound for the energy; beyond the greatest int no test may ask. */
    private static void energyUpToTheGreatestInt() {
        Circuit x = new Circuit();
        x.setRate(100);
        x.addLot(47, 0, 0, 0);
        x.advance(1);
        x.setWork(0, 100);
        x.setReturn(0, 10);
        x.addLot(200, 0, 0, 0);
        for (int call = 0; call < 429; call++) {
            x.advance(500);
        }
        CHECK.due("energy", 2145000047, x.total(2));
        x.advance(248);
        x.setWork(0, 18);
        x.advance(2);
        CHECK.due("the greatest int", Integer.MAX_VALUE, x.total(2));
        CHECK.due("passes", 107375, x.passes(1));
        CHECK.due("returned", 107375 * 200, x.total(3));
    }

    /** 2.: "m * share / 10 kilograms are broken to each finer size; the rest stays", truncated. */
    private static void brokenRoundsDown() {
        for (int share = 0; share <= 10; share++) {
            for (int mass = 1; mass <= 200; mass++) {
                Circuit x = new Circuit();
                x.setRate(100);
                x.setBreakage(0, 0, share, 0);
                returnAll(x);
                x.addLot(mass, 0, 0, 0);
                x.advance(x.mill(1));
                int broken = (mass * share - mass * share % 10) / 10;
                masses("share " + share, x, 0, mass - broken, 0, broken, 0);
            }
        }
    }

    /** Each share is truncated by itself: of 9, a share of 5 and one of 5 break 4 and 4, and 1 stays. */
    private static void brokenToEachFinerSize() {
        int[][] due = {{9, 5, 5, 0, 1, 4, 4, 0}, {9, 3, 3, 4, 2, 2, 2, 3}, {1, 3, 3, 4, 1, 0, 0, 0}, {3, 3, 3, 4, 2, 0, 0, 1},
            {10, 3, 3, 4, 0, 3, 3, 4}, {19, 1, 1, 1, 16, 1, 1, 1}, {200, 1, 2, 3, 80, 20, 40, 60}, {199, 4, 3, 3, 2, 79, 59, 59},
            {99, 0, 0, 10, 0, 0, 0, 99}, {9, 0, 9, 1, 1, 0, 8, 0}};
        for (int[] row : due) {
            Circuit x = new Circuit();
            x.setBreakage(0, row[1], row[2], row[3]);
            returnAll(x);
            x.addLot(row[0], 0, 0, 0);
            x.advance(x.mill(1));
            masses("of " + row[0], x, 0, row[4], row[5], row[6], row[7]);
        }
        Circuit x = new Circuit();
        x.setBreakage(0, 1, 1, 1);
        x.setBreakage(1, 5, 5, 0);
        x.setBreakage(2, 9, 0, 0);
        returnAll(x);
        x.addLot(19, 7, 11, 5);
        x.advance(x.mill(1));
        masses("all sizes", x, 0, 16, 2, 6, 18);
    }

    /** 2.: "what has been broken is not broken again", from each size to the next. */
    private static void notBrokenAgain() {
        for (int size = 0; size < 2; size++) {
            Circuit x = new Circuit();
            x.setBreakage(size, 10, 0, 0);
            x.setBreakage(size + 1, 10, 0, 0);
            returnAll(x);
            int[] start = new int[4];
            start[size] = 10;
            x.addLot(start[0], start[1], start[2], start[3]);
            x.advance(1);
            CHECK.due("broken once", 10, x.mass(0, size + 1));
            x.advance(1);
            CHECK.due("broken twice", 10, x.mass(0, size + 2));
        }
    }

    /** 3.: "m * (return share) / 10 kilograms are returned. The rest goes into the product", truncated. */
    private static void returnedRoundsDown() {
        for (int share = 0; share <= 10; share++) {
            for (int mass = 1; mass <= 200; mass++) {
                int size = mass % 4;
                int[] start = new int[4];
                start[size] = mass;
                Circuit x = new Circuit();
                x.setRate(100);
                x.setReturn(size, share);
                x.addLot(start[0], start[1], start[2], start[3]);
                x.advance(x.mill(1));
                int returned = (mass * share - mass * share % 10) / 10;
                CHECK.due("returned of " + mass, returned, x.mass(0, size));
                CHECK.due("produced of " + mass, mass - returned, x.produced(size));
                CHECK.due("total(3) of " + mass, returned, x.total(3));
                CHECK.due("state of " + mass, returned == 0 ? 3 : 2, x.state(0));
                CHECK.due("passes of " + mass, 1, x.passes(0));
            }
        }
    }

    /** 3.: "Of the new mass m of each size": what was broken and what was there count together. */
    private static void returnsAfterBreaking() {
        Circuit x = new Circuit();
        x.setBreakage(0, 5, 0, 0);
        x.setReturn(1, 1);
        x.addLot(10, 5, 0, 0);
        x.advance(2);
        masses("5 and 5 are 10, of which 1 returns", x, 0, 0, 1, 0, 0);
        CHECK.due("produced(0)", 5, x.produced(0));
        CHECK.due("produced(1)", 9, x.produced(1));
    }

    /** 4.: "If their sum is 0, the lot is DONE", also where a return share above 0 rounds to nothing. */
    private static void doneIfNothingIsReturned() {
        for (int size = 0; size < 4; size++) {
            int[] start = new int[4];
            start[size] = 9;
            Circuit x = new Circuit();
            x.setReturn(size, 1);
            x.addLot(start[0], start[1], start[2], start[3]);
            x.advance(1);
            CHECK.due("9 tenths of a kilogram are nothing", 3, x.state(0));
            CHECK.due("mass", 0, x.mass(0, -1));
            CHECK.due("produced", 9, x.produced(size));
            CHECK.due("mill", -7, x.mill(0));
            bin("done", x);
            start[size] = 10;
            x.addLot(start[0], start[1], start[2], start[3]);
            x.advance(1);
            CHECK.due("10 tenths are one", 2, x.state(1));
            CHECK.due("mass", 1, x.mass(1, size));
            x.advance(1);
            CHECK.due("then nothing", 3, x.state(1));
        }
        allSizesRoundToNothing();
    }

    private static void allSizesRoundToNothing() {
        Circuit x = new Circuit();
        for (int size = 0; size < 4; size++) {
            x.setReturn(size, 1);
        }
        x.addLot(9, 9, 9, 9);
        x.advance(4);
        CHECK.due("each size by itself", 3, x.state(0));
        CHECK.due("nothing is returned", 0, x.total(3));
    }

    /** 4.: "In both cases it has one pass more". */
    private static void onePassMore() {
        Circuit x = new Circuit();
        x.setReturn(0, 5);
        x.addLot(4, 0, 0, 0);
        int[] mass = {4, 2, 1, 0, 0};
        int[] state = {2, 2, 2, 3, 3};
        for (int time = 0; time < 5; time++) {
            CHECK.due("passes at " + time, Math.min(time, 3), x.passes(0));
            CHECK.due("mass at " + time, mass[time], x.mass(0, 0));
            CHECK.due("state at " + time, state[time], x.state(0));
            x.advance(1);
        }
        CHECK.due("returned", 3, x.total(3));
    }

    /** "with all shares and works at this moment", the moment of the finish. */
    private static void settingsAtTheFinish() {
        Circuit x = new Circuit();
        x.setBreakage(0, 0, 0, 10);
        x.setReturn(0, 10);
        x.setReturn(3, 10);
        x.setWork(0, 50);
        x.addLot(20, 0, 0, 0);
        x.advance(1);
        x.setBreakage(0, 5, 0, 0);
        x.setReturn(0, 5);
        x.setReturn(1, 10);
        x.setWork(0, 7);
        x.advance(1);
        CHECK.due("energy", 140, x.total(2));
        masses("shares at the finish", x, 0, 5, 10, 0, 0);
        CHECK.due("produced(0)", 5, x.produced(0));
        x.setBreakage(0, 0, 0, 0);
        x.setReturn(0, 0);
        x.setReturn(1, 0);
        x.setWork(0, 0);
        masses("the second pass has not finished", x, 0, 5, 10, 0, 0);
        CHECK.due("energy", 140, x.total(2));
    }

    /** Promise 21: "While the mill grinds it, the masses are those before grinding". */
    private static void massesBeforeGrinding() {
        Circuit x = new Circuit();
        x.setBreakage(0, 2, 3, 4);
        x.addLot(40, 30, 20, 10);
        for (int minute = 0; minute < 10; minute++) {
            masses("minute " + minute, x, 0, 40, 30, 20, 10);
            CHECK.due("total mass", 100, x.mass(0, -1));
            x.advance(1);
        }
        masses("done", x, 0, 0, 0, 0, 0);
        int[] due = {4, 38, 32, 26};
        for (int size = 0; size < 4; size++) {
            CHECK.due("produced(" + size + ")", due[size], x.produced(size));
        }
    }

    /** "first the mill finishes its lot if it is due; then the lots that are planned for this time come". */
    private static void finishThenPlannedLots() {
        for (int rule = 0; rule < 3; rule++) {
            Circuit x = new Circuit();
            x.setRule(rule);
            x.setReturn(0, 10);
            x.addLot(20, 0, 0, 0);
            x.planLot(2, 20, 0, 0, 0);
            x.planLot(1, 20, 0, 0, 0);
            x.advance(2);
            CHECK.due("the one that came before the finish is first", 2, x.mill(0));
            bin("returned before planned, rule " + rule, x, 0, 1);
        }
    }

    /** "come into the bin, in ascending order of their numbers", whenever they were planned. */
    private static void plannedLotsByTheirNumbers() {
        for (int rule = 0; rule < 3; rule++) {
            Circuit x = new Circuit();
            x.setRule(rule);
            x.addLot(200, 0, 0, 0);
            x.planLot(5, 1, 0, 0, 0);
            x.planLot(4, 1, 0, 0, 0);
            x.planLot(5, 1, 0, 0, 0);
            x.advance(3);
            x.planLot(2, 1, 0, 0, 0);
            x.planLot(1, 1, 0, 0, 0);
            x.advance(2);
            bin("by time, then by number, rule " + rule, x, 2, 5, 1, 3, 4);
        }
    }

    /** "then, if the mill is idle and the bin is not empty, the mill starts the first lot of the bin". */
    private static void plannedLotsThenStart() {
        for (int rule = 1; rule < 3; rule++) {
            Circuit x = new Circuit();
            x.setRule(rule);
            x.setReturn(0, 10);
            x.addLot(20, 0, 0, 0);
            x.addLot(30, 0, 0, 0);
            x.planLot(2, 40, 0, 0, 0);
            x.planLot(2, 50, 0, 0, 0);
            x.planLot(3, 200, 0, 0, 0);
            x.advance(2);
            CHECK.due("a lot that comes at this time", 3, x.mill(0));
            CHECK.due("its minutes", 5, x.mill(1));
            bin("rule " + rule, x, 2, 1, 0);
            x.advance(1);
            CHECK.due("the mill is not idle", 3, x.mill(0));
            bin("later, rule " + rule, x, 4, 2, 1, 0);
        }
    }

    private static void startAtTheTimeOfTheFinish() {
        Circuit x = new Circuit();
        x.addLot(20, 0, 0, 0);
        x.addLot(30, 0, 0, 0);
        x.advance(2);
        CHECK.due("the next lot", 1, x.mill(0));
        CHECK.due("all its minutes are left", 3, x.mill(1));
        x.advance(3);
        CHECK.due("finished", 3, x.state(1));
        CHECK.due("idle", -7, x.mill(0));
        x.setReturn(0, 10);
        x.addLot(10, 0, 0, 0);
        x.advance(5);
        CHECK.due("the only lot starts again at once", 5, x.passes(2));
        CHECK.due("minutes", 1, x.mill(1));
        x.planLot(1, 0, 0, 0, 10);
        x.setReturn(0, 0);
        x.advance(1);
        CHECK.due("a lot that comes when the mill becomes idle", 3, x.mill(0));
    }

    private static void plannedLotForAnIdleMill() {
        Circuit x = new Circuit();
        x.planLot(3, 0, 25, 0, 0);
        x.planLot(3, 0, 35, 0, 0);
        x.advance(3);
        CHECK.due("it starts at its time", 0, x.mill(0));
        CHECK.due("minutes", 3, x.mill(1));
        bin("the other", x, 1);
        x.advance(2);
        CHECK.due("minutes left", 1, x.mill(1));
        Circuit passing = new Circuit();
        passing.planLot(3, 0, 25, 0, 0);
        passing.advance(5);
        CHECK.due("it started in the middle of a call", 1, passing.mill(1));
    }

    /** What is due at the present time has happened when a lot is added. */
    private static void addedLotComesAfterAll() {
        for (int rule = 0; rule < 3; rule++) {
            Circuit x = new Circuit();
            x.setRule(rule);
            x.setReturn(0, 10);
            x.addLot(10, 0, 0, 0);
            x.addLot(10, 0, 0, 0);
            x.planLot(1, 10, 0, 0, 0);
            x.advance(1);
            x.addLot(10, 0, 0, 0);
            CHECK.due("mill", 1, x.mill(0));
            bin("rule " + rule, x, 0, 2, 3);
        }
    }

    /** FIRST: "lots in the order in which they came into the bin", whatever their masses and numbers. */
    private static void firstInOrderOfComing() {
        Circuit x = new Circuit();
        x.addLot(100, 0, 0, 0);
        x.planLot(2, 200, 200, 200, 200);
        x.addLot(0, 0, 0, 1);
        x.planLot(1, 1, 0, 0, 0);
        x.addLot(50, 0, 0, 0);
        x.advance(2);
        x.addLot(200, 0, 0, 0);
        bin("FIRST", x, 2, 4, 3, 1, 5);
    }

    /** HEAVIEST: "the lot with the greatest total mass first", by a kilogram of any size. */
    private static void heaviestByTotalMass() {
        Circuit x = new Circuit();
        x.setRule(GrindingCircuit.HEAVIEST);
        x.addLot(1, 0, 0, 0);
        x.addLot(10, 0, 0, 0);
        x.addLot(0, 0, 0, 11);
        x.addLot(3, 3, 3, 3);
        x.addLot(0, 13, 0, 0);
        x.addLot(0, 0, 14, 0);
        x.addLot(0, 0, 0, 9);
        x.addLot(200, 200, 200, 200);
        x.addLot(200, 200, 200, 199);
        bin("HEAVIEST", x, 7, 8, 5, 4, 3, 2, 1, 6);
    }

    /** After a pass the returned masses count, not those that the lot came with. */
    private static void heaviestByTheMassesNow() {
        for (int rule = 1; rule < 3; rule++) {
            Circuit x = new Circuit();
            x.setRule(rule);
            x.setReturn(0, 5);
            x.addLot(100, 0, 0, 0);
            x.addLot(51, 0, 0, 0);
            x.addLot(50, 0, 0, 0);
            x.addLot(49, 0, 0, 0);
            x.advance(10);
            CHECK.due("the heaviest now", 1, x.mill(0));
            bin("rule " + rule, x, 2, 0, 3);
        }
    }

    /** COARSEST: "the greatest mass of size 0 first; if equal, .. size 1; and so on". */
    private static void coarsestSizeBySize() {
        int[][] lots = {{5, 5, 5, 5}, {5, 5, 5, 6}, {5, 5, 6, 0}, {5, 6, 0, 0}, {6, 0, 0, 0}};
        for (int i = 0; i < lots.length; i++) {
            for (int j = 0; j < lots.length; j++) {
                Circuit x = new Circuit();
                x.setRule(GrindingCircuit.COARSEST);
                x.addLot(1, 0, 0, 0);
                x.addLot(lots[i][0], lots[i][1], lots[i][2], lots[i][3]);
                x.addLot(lots[j][0], lots[j][1], lots[j][2], lots[j][3]);
                if (j > i) {
                    bin("COARSEST, the second", x, 2, 1);
                } else {
                    bin("COARSEST, the first or equal", x, 1, 2);
                }
            }
        }
        Circuit x = new Circuit();
        x.setRule(GrindingCircuit.COARSEST);
        x.addLot(1, 0, 0, 0);
        x.addLot(0, 200, 200, 200);
        x.addLot(1, 0, 200, 200);
        x.addLot(1, 1, 0, 0);
        x.addLot(0, 0, 0, 200);
        x.addLot(0, 0, 1, 0);
        x.addLot(200, 0, 0, 0);
        bin("COARSEST", x, 6, 3, 2, 1, 5, 4);
    }

    /** "Lots that are equal by the rule stand in the order in which they came into the bin". */
    private static void equalByTheRule() {
        Circuit x = new Circuit();
        x.addLot(100, 0, 0, 0);
        x.planLot(2, 10, 0, 0, 0);
        x.addLot(0, 0, 0, 10);
        x.planLot(1, 0, 5, 5, 0);
        x.addLot(1, 2, 3, 4);
        x.advance(2);
        x.setRule(GrindingCircuit.HEAVIEST);
        bin("equal by HEAVIEST", x, 2, 4, 3, 1);
        Circuit same = new Circuit();
        same.addLot(100, 0, 0, 0);
        same.planLot(2, 1, 2, 3, 4);
        same.addLot(1, 2, 3, 4);
        same.planLot(1, 1, 2, 3, 4);
        same.advance(2);
        for (int rule = 0; rule < 3; rule++) {
            same.setRule(rule);
            bin("equal by rule " + rule, same, 2, 3, 1);
        }
    }

    /** 4.: "it comes into the bin again, as the last one that came". */
    private static void returnedLotIsTheLast() {
        for (int rule = 0; rule < 3; rule++) {
            Circuit x = new Circuit();
            x.setRule(rule);
            x.setReturn(0, 10);
            for (int lot = 0; lot < 4; lot++) {
                x.addLot(10, 0, 0, 0);
            }
            for (int time = 1; time <= 9; time++) {
                x.advance(1);
                CHECK.due("mill by turns", time % 4, x.mill(0));
                bin("rule " + rule, x, (time + 1) % 4, (time + 2) % 4, (time + 3) % 4);
                CHECK.due("passes", (time + 3) / 4, x.passes(0));
            }
        }
    }

    /** Thirty-nine lots wait at most: the fortieth is in the mill. */
    private static void fullBin() {
        Circuit x = new Circuit();
        x.setReturn(0, 10);
        int[] rising = new int[39];
        int[] falling = new int[39];
        for (int lot = 0; lot < 40; lot++) {
            x.addLot(lot + 1, 0, 0, 0);
        }
        for (int index = 0; index < 39; index++) {
            rising[index] = index + 1;
            falling[index] = 39 - index;
        }
        bin("FIRST", x, rising);
        x.setRule(GrindingCircuit.HEAVIEST);
        bin("HEAVIEST", x, falling);
        x.setRule(GrindingCircuit.COARSEST);
        bin("COARSEST", x, falling);
        x.advance(1);
        CHECK.due("the last lot", 39, x.mill(0));
        falling[38] = 0;
        for (int index = 0; index < 38; index++) {
            falling[index] = 38 - index;
        }
        bin("with the returned lot", x, falling);
    }

    /** Promise 17: "The lots in the bin stand in the order of the new rule then". */
    private static void ruleOfTheBinNow() {
        Circuit x = new Circuit();
        x.addLot(10, 0, 0, 0);
        x.addLot(0, 30, 0, 0);
        x.addLot(0, 0, 0, 90);
        x.addLot(20, 0, 0, 0);
        int[][] due = {{1, 2, 3}, {2, 1, 3}, {3, 1, 2}};
        for (int before = 0; before < 3; before++) {
            for (int rule = 0; rule < 3; rule++) {
                x.setRule(before);
                x.setRule(rule);
                bin("rule " + rule + " after " + before, x, due[rule]);
            }
        }
        for (int rule = 0; rule < 3; rule++) {
            Circuit y = new Circuit();
            y.addLot(10, 0, 0, 0);
            y.addLot(0, 30, 0, 0);
            y.addLot(0, 0, 0, 90);
            y.addLot(20, 0, 0, 0);
            y.setRule(rule);
            y.advance(1);
            CHECK.due("the mill takes the first by rule " + rule, due[rule][0], y.mill(0));
            bin("the others", y, due[rule][1], due[rule][2]);
        }
    }

    private static void ruleLeavesTheMill() {
        Circuit x = new Circuit();
        x.addLot(0, 0, 0, 15);
        x.addLot(200, 200, 200, 200);
        for (int rule = 0; rule < 3; rule++) {
            x.setRule(rule);
            CHECK.due("mill(0)", 0, x.mill(0));
            CHECK.due("mill(1)", 2, x.mill(1));
            bin("rule " + rule, x, 1);
        }
    }

    /** Promise 24: energy and returned masses of all lots so far; product and returns add up to what came. */
    private static void totalsOfSeveralLots() {
        Circuit x = new Circuit();
        x.setReturn(0, 5);
        x.setReturn(3, 1);
        x.setWork(3, 2);
        x.addLot(20, 0, 0, 0);
        x.addLot(0, 0, 0, 30);
        x.advance(2);
        CHECK.due("returned, one lot", 10, x.total(3));
        CHECK.due("energy, one lot", 20, x.total(2));
        x.advance(3);
        CHECK.due("returned, two lots", 13, x.total(3));
        CHECK.due("energy, two lots", 80, x.total(2));
        CHECK.due("produced", 37, x.produced(-1));
        x.advance(1);
        CHECK.due("returned, the first again", 18, x.total(3));
        x.advance(1);
        CHECK.due("returned, the second again", 18, x.total(3));
        CHECK.due("energy, four passes", 96, x.total(2));
        CHECK.due("lots", 2, x.total(1));
        CHECK.due("time", 7, x.total(0));
    }
}
