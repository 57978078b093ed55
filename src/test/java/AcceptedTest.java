/**
 * Every argument's last values within its range, on each side: they are taken and take effect.
 * The first values outside stand in RefusedTest.
 */
public final class AcceptedTest {
    private static final Check CHECK = new Check();

    public static void main(String[] args) {
        everyBreakage();
        shareThatStaysIsNeverBelowZero();
        everyShare();
        returnShares();
        works();
        feeds();
        parts();
        cuts();
        limits();
        lotMasses();
        delays();
        minutes();
        rates();
        rules();
        binIndices();
        millWhat();
        lotNumbers();
        sizesOfMasses();
        totals();
        questionsChangeNothing();
        CHECK.end();
    }

    private static long breakageDue(int size, int one, int two, int three) {
        if (size < 0 || size > 3) {
            return -1;
        }
        int greatest = Math.max(one, Math.max(two, three));
        int least = Math.min(one, Math.min(two, three));
        boolean toNoSize = size > 0 && three != 0 || size > 1 && two != 0 || size > 2 && one != 0;
        return least < 0 || greatest > 10 || one + two + three > 10 || toNoSize ? -3 : 10 - one - two - three;
    }

    /** Promise 2, for all shares from -1 to 11: the answer, and the share that stays now or still. */
    private static void everyBreakage() {
        for (int size = -1; size <= 4; size++) {
            for (int one = -1; one <= 11; one++) {
                Circuit x = new Circuit();
                long stays = 10;
                for (int two = -1; two <= 11; two++) {
                    for (int three = -1; three <= 11; three++) {
                        long due = breakageDue(size, one, two, three);
                        String call = "setBreakage(" + size + "," + one + "," + two + "," + three + ")";
                        CHECK.due(call, due, x.setBreakage(size, one, two, three));
                        stays = due < 0 ? stays : due;
                        CHECK.due("share that stays after " + call, size < 0 || size > 3 ? -1 : stays, x.share(size, size));
                    }
                }
            }
        }
    }

    /** Sizes: "the share that stays .. is never below 0"; it is 0 where all is broken. */
    private static void shareThatStaysIsNeverBelowZero() {
        int[][] all = {{0, 10, 0, 0}, {0, 0, 10, 0}, {0, 0, 0, 10}, {0, 4, 3, 3}, {1, 10, 0, 0}, {1, 0, 10, 0}, {1, 5, 5, 0},
            {2, 10, 0, 0}};
        for (int[] row : all) {
            Circuit x = new Circuit();
            CHECK.due("all is broken", 0, x.setBreakage(row[0], row[1], row[2], row[3]));
            CHECK.due("nothing stays", 0, x.share(row[0], row[0]));
            for (int finer = 1; row[0] + finer < 4; finer++) {
                CHECK.due("share to a finer size", row[finer], x.share(row[0], row[0] + finer));
            }
        }
    }

    /** Promise 3: "the share, 0 if to is less than from", in every pair of sizes. */
    private static void everyShare() {
        Circuit x = new Circuit();
        for (int from = 0; from < 4; from++) {
            for (int to = 0; to < 4; to++) {
                CHECK.due("initial share(" + from + "," + to + ")", from == to ? 10 : 0, x.share(from, to));
            }
        }
        x.setBreakage(0, 1, 2, 3);
        x.setBreakage(1, 4, 5, 0);
        x.setBreakage(2, 7, 0, 0);
        int[][] due = {{4, 1, 2, 3}, {0, 1, 4, 5}, {0, 0, 3, 7}, {0, 0, 0, 10}};
        for (int from = 0; from < 4; from++) {
            for (int to = 0; to < 4; to++) {
                CHECK.due("share(" + from + "," + to + ")", due[from][to], x.share(from, to));
            }
        }
        x.setBreakage(0, 0, 0, 0);
        x.setBreakage(1, 0, 0, 0);
        x.setBreakage(2, 0, 0, 0);
        CHECK.holds("all shares are as at first", State.now(new Circuit()).equals(State.now(x)));
    }

    /** Promise 4: "0 to 10", "the previous share"; each size has its own. */
    private static void returnShares() {
        everyValue("setReturn", 10, 0);
        for (int size = 0; size < 4; size++) {
            Circuit x = new Circuit();
            x.setFeed(size, 1);
            for (int share = 0; share < 10; share++) {
                x.setReturn(size, share);
                int whole = 10 - share;
                int divisor = whole % 5 == 0 ? 5 : whole % 2 == 0 ? 2 : 1;
                divisor = whole == 10 ? 10 : divisor;
                CHECK.fraction("load by return share " + share, 10 / divisor, whole / divisor, x.load(size, 0), x.load(size, 1));
            }
            x.setReturn(size, 10);
            CHECK.due("all is returned", -5, x.load(size, 0));
        }
    }

    /** Promise 5: "0 to 100", "the previous work"; each size has its own. */
    private static void works() {
        everyValue("setWork", 100, 1);
        for (int size = 0; size < 4; size++) {
            Circuit x = new Circuit();
            x.setFeed(size, 3);
            CHECK.due("power by the initial work", 3, x.power(0));
            x.setWork(size, 0);
            CHECK.fraction("power by work 0", 0, 1, x.power(0), x.power(1));
            x.setWork(size, 100);
            CHECK.fraction("power by work 100", 300, 1, x.power(0), x.power(1));
        }
    }

    /** Promise 6: "0 to 1000", "the previous feed"; each size has its own. */
    private static void feeds() {
        everyValue("setFeed", 1000, 0);
        for (int size = 0; size < 4; size++) {
            Circuit x = new Circuit();
            x.setFeed(size, 1000);
            CHECK.fraction("load by feed 1000", 1000, 1, x.load(size, 0), x.load(size, 1));
            CHECK.fraction("product by feed 1000", 1000, 1, x.product(size, 0), x.product(size, 1));
            x.setFeed(size, 0);
            CHECK.fraction("load by feed 0", 0, 1, x.load(size, 0), x.load(size, 1));
        }
    }

    /** Sets 0, 1, one less than the greatest, and the greatest, in each size, and reads them again. */
    private static void everyValue(String setter, int greatest, int initial) {
        Circuit x = new Circuit();
        int previous = initial;
        for (int value : new int[] {0, 1, greatest - 1, greatest, greatest, 0, greatest / 2}) {
            for (int size = 0; size < 4; size++) {
                CHECK.due(setter + "(" + size + "," + value + ")", previous, x.call(setter, size, value));
            }
            previous = value;
        }
        for (int size = 0; size < 4; size++) {
            x.call(setter, size, size + 1);
        }
        for (int size = 0; size < 4; size++) {
            CHECK.due(setter + " has a value for each size", size + 1, x.call(setter, size, 0));
        }
    }

    /** Conventions: "part selects the numerator (0) or the denominator (1)". */
    private static void parts() {
        Circuit x = new Circuit();
        x.setBreakage(0, 0, 0, 3);
        x.setReturn(0, 4);
        x.setFeed(0, 7);
        CHECK.fraction("load(0)", 175, 18, x.load(0, 0), x.load(0, 1));
        CHECK.fraction("product(0)", 49, 12, x.product(0, 0), x.product(0, 1));
        CHECK.fraction("product(3)", 35, 12, x.product(3, 0), x.product(3, 1));
        CHECK.fraction("load(3)", 0, 1, x.load(3, 0), x.load(3, 1));
        CHECK.fraction("circulatingLoad", 7, 18, x.circulatingLoad(0), x.circulatingLoad(1));
        CHECK.fraction("power", 175, 18, x.power(0), x.power(1));
        CHECK.fraction("cutPower(1)", 70, 3, x.cutPower(1, 0), x.cutPower(1, 1));
    }

    /** Promise 11: "cut: 0 to 4"; with 0 nothing is returned, with 4 all. */
    private static void cuts() {
        Circuit x = new Circuit();
        x.setBreakage(0, 5, 0, 0);
        x.setBreakage(1, 5, 0, 0);
        x.setBreakage(2, 5, 0, 0);
        x.setFeed(0, 8);
        int[] due = {8, 16, 32, 48, -5};
        for (int cut = 0; cut <= 4; cut++) {
            CHECK.due("cutPower(" + cut + ",0)", due[cut], x.cutPower(cut, 0));
            CHECK.due("cutPower(" + cut + ",1)", cut == 4 ? -5 : 1, x.cutPower(cut, 1));
        }
        x.setFeed(0, 0);
        for (int cut = 0; cut <= 4; cut++) {
            CHECK.fraction("cutPower without feed", 0, 1, x.cutPower(cut, 0), x.cutPower(cut, 1));
        }
    }

    /** Promise 12: "limit: 0 to 1000000000"; a power of just the limit is within it. */
    private static void limits() {
        Circuit x = new Circuit();
        CHECK.due("finestCut(0) without feed", 4, x.finestCut(0));
        CHECK.due("finestCut(1000000000) without feed", 4, x.finestCut(1000000000));
        x.setFeed(3, 1);
        CHECK.due("finestCut(0)", -7, x.finestCut(0));
        CHECK.due("finestCut(1)", 3, x.finestCut(1));
        CHECK.due("finestCut(999999999)", 3, x.finestCut(999999999));
        CHECK.due("finestCut(1000000000)", 3, x.finestCut(1000000000));
    }

    /** Promises 13 and 14: each mass "0 to 200", one of them above 0. */
    private static void lotMasses() {
        for (int place = 0; place < 4; place++) {
            for (int mass : new int[] {1, 199, 200}) {
                int[] masses = new int[4];
                masses[place] = mass;
                Circuit x = new Circuit();
                CHECK.due("addLot of one size", 0, x.addLot(masses[0], masses[1], masses[2], masses[3]));
                CHECK.due("planLot of one size", 1, x.planLot(1, masses[0], masses[1], masses[2], masses[3]));
                for (int size = 0; size < 4; size++) {
                    CHECK.due("mass of an added lot", masses[size], x.mass(0, size));
                    CHECK.due("mass of a planned lot", masses[size], x.mass(1, size));
                }
                CHECK.due("total mass", mass, x.mass(0, -1));
                CHECK.due("total mass", mass, x.mass(1, -1));
            }
        }
        Circuit x = new Circuit();
        CHECK.due("addLot of the greatest", 0, x.addLot(200, 200, 200, 200));
        CHECK.due("planLot of the greatest", 1, x.planLot(1000, 200, 200, 200, 200));
        CHECK.due("total mass of the greatest", 800, x.mass(0, -1));
        CHECK.due("total mass of the greatest", 800, x.mass(1, -1));
    }

    /** Promise 14: "how many minutes from now, 1 to 1000". */
    private static void delays() {
        Circuit x = new Circuit();
        x.advance(30);
        x.planLot(1, 1, 0, 0, 0);
        x.planLot(2, 1, 0, 0, 0);
        x.planLot(999, 1, 0, 0, 0);
        x.planLot(1000, 1, 0, 0, 0);
        CHECK.due("delay 1, now", 0, x.state(0));
        x.advance(1);
        CHECK.due("delay 1", 2, x.state(0));
        CHECK.due("delay 2, a minute before", 0, x.state(1));
        x.advance(1);
        CHECK.due("delay 2", 2, x.state(1));
        x.advance(500);
        x.advance(496);
        CHECK.due("delay 999, a minute before", 0, x.state(2));
        x.advance(1);
        CHECK.due("delay 999", 2, x.state(2));
        CHECK.due("delay 1000, a minute before", 0, x.state(3));
        x.advance(1);
        CHECK.due("delay 1000", 2, x.state(3));
        CHECK.due("time", 1030, x.total(0));
    }

    /** Promise 15: "minutes: 1 to 500", "the new time". */
    private static void minutes() {
        Circuit x = new Circuit();
        CHECK.due("advance(1)", 1, x.advance(1));
        CHECK.due("advance(2)", 3, x.advance(2));
        CHECK.due("advance(499)", 502, x.advance(499));
        CHECK.due("advance(500)", 1002, x.advance(500));
        CHECK.due("the time", 1002, x.total(0));
        Circuit longest = new Circuit();
        for (int call = 1; call <= 511; call++) {
            CHECK.due("advance(500)", 500 * call, longest.advance(500));
        }
        CHECK.due("the time after 511 calls", 255500, longest.total(0));
    }

    /** Promise 16: "1 to 100", "the previous rate". */
    private static void rates() {
        Circuit x = new Circuit();
        CHECK.due("setRate(1)", 10, x.setRate(1));
        CHECK.due("setRate(2)", 1, x.setRate(2));
        CHECK.due("setRate(99)", 2, x.setRate(99));
        CHECK.due("setRate(100)", 99, x.setRate(100));
        CHECK.due("setRate(100) again", 100, x.setRate(100));
        x.addLot(200, 200, 200, 200);
        CHECK.due("minutes by rate 100", 8, x.mill(1));
        CHECK.due("setRate(1)", 100, x.setRate(1));
        x.addLot(200, 200, 200, 200);
        x.advance(8);
        CHECK.due("minutes by rate 1", 800, x.mill(1));
    }

    /** Promise 17: "FIRST, HEAVIEST or COARSEST", "the previous rule". */
    private static void rules() {
        Circuit x = new Circuit();
        CHECK.due("setRule(2)", 0, x.setRule(2));
        CHECK.due("setRule(1)", 2, x.setRule(1));
        CHECK.due("setRule(1) again", 1, x.setRule(1));
        CHECK.due("setRule(0)", 1, x.setRule(0));
        CHECK.due("setRule(2) again", 0, x.setRule(2));
    }

    /** Promise 18: "from 0; or -1 for the number of lots"; "NONE if there is no such index". */
    private static void binIndices() {
        Circuit x = new Circuit();
        for (int lot = 0; lot < 40; lot++) {
            int waiting = Math.max(0, lot - 1);
            CHECK.due("bin(-1) with " + waiting, waiting, x.bin(-1));
            CHECK.due("last index within, or none", waiting == 0 ? -7 : waiting, x.bin(waiting - 1 < 0 ? 0 : waiting - 1));
            CHECK.due("first index outside", -7, x.bin(waiting));
            CHECK.due("addLot", lot, x.addLot(1, 0, 0, 0));
        }
        CHECK.due("bin(-1) full", 39, x.bin(-1));
        CHECK.due("bin(0) full", 1, x.bin(0));
        CHECK.due("bin(38) full", 39, x.bin(38));
        CHECK.due("bin(39) full", -7, x.bin(39));
        for (int waiting = 38; waiting >= 0; waiting--) {
            x.advance(1);
            CHECK.due("bin(-1) later", waiting, x.bin(-1));
            CHECK.due("first index outside later", -7, x.bin(waiting));
        }
        CHECK.due("bin(0) of the empty bin", -7, x.bin(0));
    }

    /** Promise 19: "0 for the lot .., 1 for the number of minutes"; "NONE if the mill is idle". */
    private static void millWhat() {
        Circuit x = new Circuit();
        CHECK.due("mill(0) of a new object", -7, x.mill(0));
        CHECK.due("mill(1) of a new object", -7, x.mill(1));
        x.planLot(2, 21, 0, 0, 0);
        x.advance(1);
        CHECK.due("mill(0) before the lot comes", -7, x.mill(0));
        CHECK.due("mill(1) before the lot comes", -7, x.mill(1));
        for (int left = 3; left > 0; left--) {
            x.advance(1);
            CHECK.due("mill(0)", 0, x.mill(0));
            CHECK.due("mill(1)", left, x.mill(1));
        }
        x.advance(1);
        CHECK.due("mill(0) afterwards", -7, x.mill(0));
        CHECK.due("mill(1) afterwards", -7, x.mill(1));
    }

    /** Lots: "Up to 40 lots can be created, numbered from 0"; promises 20 to 22 know the first and the last. */
    private static void lotNumbers() {
        Circuit x = new Circuit();
        for (int lot = 0; lot < 40; lot++) {
            CHECK.due("state before it is created", -2, x.state(lot));
            CHECK.due("passes before it is created", -2, x.passes(lot));
            CHECK.due("mass before it is created", -2, x.mass(lot, 0));
            CHECK.due("lot", lot, lot % 2 == 0 ? x.addLot(0, lot + 1, 0, 0) : x.planLot(lot, 0, lot + 1, 0, 0));
            CHECK.due("state", lot == 0 ? 2 : lot % 2 == 0 ? 1 : 0, x.state(lot));
            CHECK.due("passes", 0, x.passes(lot));
            CHECK.due("mass", lot + 1, x.mass(lot, 1));
            CHECK.due("number of lots", lot + 1, x.total(1));
        }
        CHECK.due("state(40)", -2, x.state(40));
        x.advance(500);
        for (int lot = 0; lot < 40; lot++) {
            CHECK.due("done", 3, x.state(lot));
            CHECK.due("passes when done", 1, x.passes(lot));
            CHECK.due("mass when done", 0, x.mass(lot, -1));
        }
        CHECK.due("lots that are done count", -4, x.addLot(1, 0, 0, 0));
        CHECK.due("lots that are done count", -4, x.planLot(1, 1, 0, 0, 0));
    }

    /** Promises 21 and 23: "a size, or -1 for the total mass". */
    private static void sizesOfMasses() {
        Circuit x = new Circuit();
        x.addLot(1, 20, 30, 4);
        int[] due = {1, 20, 30, 4};
        CHECK.due("mass(0,-1)", 55, x.mass(0, -1));
        CHECK.due("produced(-1) at first", 0, x.produced(-1));
        for (int size = 0; size < 4; size++) {
            CHECK.due("mass(0," + size + ")", due[size], x.mass(0, size));
            CHECK.due("produced(" + size + ") at first", 0, x.produced(size));
        }
        x.advance(6);
        CHECK.due("mass(0,-1) when done", 0, x.mass(0, -1));
        CHECK.due("produced(-1)", 55, x.produced(-1));
        for (int size = 0; size < 4; size++) {
            CHECK.due("mass(0," + size + ") when done", 0, x.mass(0, size));
            CHECK.due("produced(" + size + ")", due[size], x.produced(size));
        }
    }

    /** Promise 24: "0 the time, 1 the number of lots created, 2 the energy spent, 3 the sum of all returned". */
    private static void totals() {
        Circuit x = new Circuit();
        for (int what = 0; what < 4; what++) {
            CHECK.due("total(" + what + ") of a new object", 0, x.total(what));
        }
        x.setWork(0, 3);
        x.setReturn(0, 5);
        x.addLot(100, 0, 0, 0);
        x.planLot(900, 1, 0, 0, 0);
        x.advance(12);
        int[] due = {12, 2, 300, 50};
        for (int what = 0; what < 4; what++) {
            CHECK.due("total(" + what + ")", due[what], x.total(what));
        }
    }

    /** Promise 11: "Nothing changes"; nor by any other call that only asks. */
    private static void questionsChangeNothing() {
        String[] names = {"load", "product", "cutPower", "share", "mass"};
        Circuit asked = Scene.BUSY.make();
        for (int i = 0; i < names.length; i++) {
            long answer = asked.call(names[i], 0, 1);
            Scene.BUSY.keeps(CHECK, answer, names[i], 0, 1);
            CHECK.due(names[i] + "(0,1) again", answer, asked.call(names[i], 0, 1));
        }
        for (String name : new String[] {"circulatingLoad", "power", "finestCut", "bin", "mill", "state", "passes",
            "produced", "total"}) {
            Scene.BUSY.keeps(CHECK, asked.call(name, 1), name, 1);
        }
        for (int cut = 0; cut <= 4; cut++) {
            Scene.BUSY.keeps(CHECK, asked.cutPower(cut, 0), "cutPower", cut, 0);
            Scene.STUCK.keeps(CHECK, cut == 4 ? -5 : 1, "cutPower", cut, 0);
        }
        Scene.BUSY.keeps(CHECK, 3, "finestCut", 1000000000);
        Scene.BUSY.keeps(CHECK, -7, "finestCut", 0);
    }
}
