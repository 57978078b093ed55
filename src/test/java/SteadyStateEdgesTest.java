/** Promises 7 to 12: when there is no steady state, fractions in lowest terms, and the sharp cuts' edges. */
public final class SteadyStateEdgesTest {
    private static final Check CHECK = new Check();

    public static void main(String[] args) {
        feedIntoASizeThatKeepsAll();
        brokenOreIntoASizeThatKeepsAll();
        shareOfALoadOfZero();
        loadIsZeroWhereNothingIsReturned();
        severalSizesThatKeepAll();
        bothSharesMustBeTen();
        nothingStaysButAllReturns();
        noSteadyStateForAnySize();
        lowestTerms();
        zeroIsZeroOverOne();
        everyReturnAndStay();
        greatestLoads();
        greatestDenominators();
        feedsOfOneSize();
        noFeed();
        cutIgnoresTheReturnShares();
        cutWithoutSteadyState();
        cutReturnsTheSizesBelowIt();
        limitOfAFraction();
        limitByCuts();
        noCutWithinTheLimit();
        CHECK.end();
    }

    private static void load(Circuit x, int size, long numerator, long denominator) {
        CHECK.fraction("load(" + size + ")", numerator, denominator, x.load(size, 0), x.load(size, 1));
    }

    private static void product(Circuit x, int size, long numerator, long denominator) {
        CHECK.fraction("product(" + size + ")", numerator, denominator, x.product(size, 0), x.product(size, 1));
    }

    private static void none(String why, Circuit x) {
        for (int part = 0; part < 2; part++) {
            for (int size = 0; size < 4; size++) {
                CHECK.due(why + ": load", -5, x.load(size, part));
                CHECK.due(why + ": product", -5, x.product(size, part));
            }
            CHECK.due(why + ": power", -5, x.power(part));
            CHECK.due(why + ": circulatingLoad", -5, x.circulatingLoad(part));
        }
    }

    private static void breakTo(Circuit x, int from, int to, int share) {
        int[] shares = new int[3];
        shares[to - from - 1] = share;
        x.setBreakage(from, shares[0], shares[1], shares[2]);
    }

    /** "only a steady state if nothing else enters this size: feed(j) is 0"; "its load is 0 then". */
    private static void feedIntoASizeThatKeepsAll() {
        for (int size = 0; size < 4; size++) {
            Circuit x = new Circuit();
            x.setReturn(size, 10);
            load(x, size, 0, 1);
            product(x, size, 0, 1);
            CHECK.fraction("power", 0, 1, x.power(0), x.power(1));
            CHECK.due("circulatingLoad", -7, x.circulatingLoad(0));
            x.setFeed(size, 1);
            none("feed enters size " + size, x);
            x.setFeed(size, 1000);
            none("much feed enters size " + size, x);
            x.setFeed(size, 0);
            load(x, size, 0, 1);
        }
    }

    /** "and load(i) * share(i, j) is 0 for all i less than j", for each such pair. */
    private static void brokenOreIntoASizeThatKeepsAll() {
        for (int to = 1; to < 4; to++) {
            for (int from = 0; from < to; from++) {
                Circuit x = new Circuit();
                x.setReturn(to, 10);
                x.setFeed(from, 7);
                load(x, from, 7, 1);
                load(x, to, 0, 1);
                breakTo(x, from, to, 1);
                none("one share from " + from + " enters " + to, x);
                breakTo(x, from, to, 10);
                none("all from " + from + " enters " + to, x);
                x.setReturn(to, 9);
                CHECK.due("nine tenths have a steady state", 1, x.load(to, 1));
                x.setReturn(to, 10);
                breakTo(x, from, to, 0);
                load(x, to, 0, 1);
                product(x, to, 0, 1);
                product(x, from, 7, 1);
            }
        }
    }

    /** The product of load and share counts: a load of 0 brings nothing, whatever the share. */
    private static void shareOfALoadOfZero() {
        for (int to = 1; to < 4; to++) {
            for (int from = 0; from < to; from++) {
                Circuit x = new Circuit();
                x.setReturn(to, 10);
                breakTo(x, from, to, 10);
                load(x, to, 0, 1);
                load(x, from, 0, 1);
                x.setFeed(from, 1);
                none("the load is not 0 any more", x);
            }
        }
    }

    /** Ore that is broken to a size and not returned is no load of it, so none of it is broken further. */
    private static void loadIsZeroWhereNothingIsReturned() {
        Circuit x = new Circuit();
        x.setFeed(0, 40);
        x.setBreakage(0, 5, 0, 0);
        x.setBreakage(1, 5, 0, 0);
        x.setReturn(2, 10);
        load(x, 1, 0, 1);
        product(x, 1, 20, 1);
        load(x, 2, 0, 1);
        product(x, 2, 0, 1);
        x.setReturn(1, 1);
        none("a tenth is returned and broken further", x);
        x.setBreakage(2, 1, 0, 0);
        load(x, 1, 40, 19);
        load(x, 2, 200, 19);
    }

    private static void severalSizesThatKeepAll() {
        Circuit x = new Circuit();
        for (int size = 0; size < 4; size++) {
            x.setReturn(size, 10);
        }
        for (int size = 0; size < 4; size++) {
            load(x, size, 0, 1);
            product(x, size, 0, 1);
        }
        for (int size = 0; size < 4; size++) {
            x.setFeed(size, 1);
            none("feed enters one of them", x);
            x.setFeed(size, 0);
        }
        x.setBreakage(0, 0, 0, 1);
        load(x, 3, 0, 1);
        x.setFeed(0, 1);
        none("size 0 breaks into size 3, which keeps all", x);
        x.setReturn(3, 0);
        load(x, 0, 10, 1);
        product(x, 3, 1, 1);
    }

    /** "If for a size the return share and the share that stays are both 10": 9 of one of them will do. */
    private static void bothSharesMustBeTen() {
        for (int size = 0; size < 4; size++) {
            Circuit x = new Circuit();
            x.setFeed(size, 6);
            x.setReturn(size, 9);
            load(x, size, 60, 1);
            product(x, size, 6, 1);
            if (size < 3) {
                x.setReturn(size, 10);
                none("both are 10", x);
                x.setBreakage(size, 1, 0, 0);
                load(x, size, 60, 1);
                product(x, size, 0, 1);
                product(x, size + 1, 6, 1);
            }
        }
    }

    private static void nothingStaysButAllReturns() {
        for (int size = 0; size < 3; size++) {
            Circuit x = new Circuit();
            x.setFeed(size, 6);
            x.setReturn(size, 10);
            x.setBreakage(size, 10, 0, 0);
            load(x, size, 6, 1);
            product(x, size, 0, 1);
            product(x, size + 1, 6, 1);
        }
    }

    /** Without a steady state there is none for the other sizes either, coarser or finer. */
    private static void noSteadyStateForAnySize() {
        for (int stuck = 0; stuck < 4; stuck++) {
            Circuit x = new Circuit();
            for (int size = 0; size < 4; size++) {
                x.setFeed(size, 5);
            }
            x.setReturn(stuck, 10);
            none("size " + stuck + " keeps all", x);
            x.setReturn(stuck, 0);
            for (int size = 0; size < 4; size++) {
                load(x, size, 5, 1);
            }
        }
    }

    /** "Fractions are returned in lowest terms with a positive denominator". */
    private static void lowestTerms() {
        Circuit x = new Circuit();
        x.setReturn(3, 4);
        long[][] due = {{1, 5, 3}, {2, 10, 3}, {3, 5, 1}, {6, 10, 1}, {999, 1665, 1}, {1000, 5000, 3}};
        for (long[] row : due) {
            x.setFeed(3, (int) row[0]);
            load(x, 3, row[1], row[2]);
            product(x, 3, row[0], 1);
            CHECK.fraction("power", row[1], row[2], x.power(0), x.power(1));
            CHECK.fraction("circulatingLoad", 2, 3, x.circulatingLoad(0), x.circulatingLoad(1));
        }
        x.setWork(3, 3);
        CHECK.fraction("power in lowest terms", 5000, 1, x.power(0), x.power(1));
    }

    /** "0 as 0/1", where a denominator stands elsewhere too. */
    private static void zeroIsZeroOverOne() {
        Circuit x = new Circuit();
        x.setBreakage(0, 0, 0, 3);
        x.setReturn(0, 4);
        x.setFeed(0, 7);
        load(x, 1, 0, 1);
        product(x, 1, 0, 1);
        load(x, 2, 0, 1);
        product(x, 2, 0, 1);
        load(x, 3, 0, 1);
        x.setWork(0, 0);
        CHECK.fraction("power", 0, 1, x.power(0), x.power(1));
        CHECK.fraction("cutPower", 0, 1, x.cutPower(1, 0), x.cutPower(1, 1));
        x.setReturn(0, 0);
        CHECK.fraction("circulatingLoad", 0, 1, x.circulatingLoad(0), x.circulatingLoad(1));
    }

    private static long divisor(long a, long b) {
        return b == 0 ? a : divisor(b, a % b);
    }

    /** load = feed / (1 - return share * share that stays), for each pair of shares and three sizes. */
    private static void everyReturnAndStay() {
        for (int size = 0; size < 3; size++) {
            for (int stays = 0; stays <= 10; stays++) {
                Circuit x = new Circuit();
                x.setFeed(size, 60);
                x.setBreakage(size, 10 - stays, 0, 0);
                for (int share = 0; share <= 10; share++) {
                    x.setReturn(size, share);
                    long leaving = 100 - stays * share;
                    if (leaving == 0) {
                        none("all stays and returns", x);
                        continue;
                    }
                    long common = divisor(6000, leaving);
                    load(x, size, 6000 / common, leaving / common);
                    long passing = 60L * stays * (10 - share);
                    long passingCommon = divisor(passing, leaving);
                    product(x, size, passing / passingCommon, leaving / passingCommon);
                }
            }
        }
    }

    /** The slowest breakage that has a steady state, with the greatest feeds and works. */
    private static void greatestLoads() {
        Circuit x = new Circuit();
        for (int size = 0; size < 4; size++) {
            x.setBreakage(size, size < 3 ? 1 : 0, 0, 0);
            x.setReturn(size, size < 3 ? 10 : 9);
            x.setFeed(size, 1000);
            x.setWork(size, 100);
        }
        load(x, 0, 10000, 1);
        load(x, 1, 20000, 1);
        load(x, 2, 30000, 1);
        load(x, 3, 37000, 1);
        product(x, 3, 4000, 1);
        CHECK.fraction("power", 9700000, 1, x.power(0), x.power(1));
        CHECK.fraction("circulatingLoad", 93, 4, x.circulatingLoad(0), x.circulatingLoad(1));
        CHECK.fraction("cutPower(3)", 6100000, 1, x.cutPower(3, 0), x.cutPower(3, 1));
        CHECK.due("finestCut below it", 2, x.finestCut(6099999));
        CHECK.due("finestCut of it", 3, x.finestCut(6100000));
        CHECK.due("finestCut of the greatest limit", 3, x.finestCut(1000000000));
    }

    /** The sizes' divisors are 97, 91, 79 and 30, with no factor in common. */
    private static void greatestDenominators() {
        Circuit x = new Circuit();
        x.setBreakage(0, 3, 3, 3);
        x.setBreakage(1, 1, 6, 0);
        x.setBreakage(2, 3, 0, 0);
        x.setReturn(0, 3);
        x.setReturn(1, 3);
        x.setReturn(2, 3);
        x.setReturn(3, 7);
        for (int size = 0; size < 4; size++) {
            x.setFeed(size, 997 - 2 * size);
            x.setWork(size, 99 - size);
        }
        load(x, 0, 99700L, 97L);
        load(x, 1, 10548800L, 8827L);
        load(x, 2, 989821800L, 697333L);
        load(x, 3, 1999206940L, 298857L);
        product(x, 0, 6979L, 97L);
        product(x, 1, 588645L, 1261L);
        product(x, 2, 99123377L, 99619L);
        product(x, 3, 243291379L, 99619L);
        CHECK.fraction("power", 696461465460L, 697333L, x.power(0), x.power(1));
        CHECK.fraction("circulatingLoad", 1662052682L, 1039723503L,
                x.circulatingLoad(0), x.circulatingLoad(1));
    }

    private static void feedsOfOneSize() {
        for (int size = 0; size < 4; size++) {
            Circuit x = new Circuit();
            x.setFeed(size, 1);
            x.setReturn(size, 5);
            CHECK.fraction("circulatingLoad", 1, 1, x.circulatingLoad(0), x.circulatingLoad(1));
            x.setReturn(size, 0);
            CHECK.fraction("circulatingLoad", 0, 1, x.circulatingLoad(0), x.circulatingLoad(1));
        }
    }

    /** Promise 9: "NONE if all feeds are 0". */
    private static void noFeed() {
        Circuit x = new Circuit();
        x.setReturn(0, 10);
        x.setReturn(2, 5);
        for (int size = 0; size < 4; size++) {
            x.setFeed(size, 1);
            x.setFeed(size, 0);
            CHECK.due("circulatingLoad(0)", -7, x.circulatingLoad(0));
            CHECK.due("circulatingLoad(1)", -7, x.circulatingLoad(1));
        }
        x.setFeed(3, 1);
        CHECK.due("circulatingLoad with the least feed", 0, x.circulatingLoad(0));
        x.setFeed(0, 1);
        CHECK.due("circulatingLoad without a steady state", -5, x.circulatingLoad(0));
    }

    /** Promise 11: "if the return share were 10 for all sizes less than the cut, and 0 for all other sizes". */
    private static void cutIgnoresTheReturnShares() {
        Circuit x = new Circuit();
        x.setBreakage(0, 2, 0, 0);
        x.setBreakage(1, 4, 1, 0);
        x.setFeed(0, 10);
        x.setFeed(3, 1);
        long[] due = {11, 51, 71, -5, -5};
        for (int share = 0; share <= 10; share += 5) {
            for (int size = 0; size < 4; size++) {
                x.setReturn(size, share);
            }
            for (int cut = 0; cut <= 4; cut++) {
                CHECK.due("cutPower(" + cut + ") with returns of " + share, due[cut], x.cutPower(cut, 0));
            }
            for (int size = 0; size < 4; size++) {
                CHECK.due("the return share is kept", share, x.setReturn(size, share));
            }
        }
    }

    /** Promise 11: "NO_STEADY_STATE if there is no steady state with this cut", whatever the state now. */
    private static void cutWithoutSteadyState() {
        for (int size = 0; size < 4; size++) {
            Circuit x = new Circuit();
            x.setFeed(size, 2);
            for (int cut = 0; cut <= 4; cut++) {
                CHECK.due("cutPower(" + cut + ",0)", cut <= size ? 2 : -5, x.cutPower(cut, 0));
                CHECK.due("cutPower(" + cut + ",1)", cut <= size ? 1 : -5, x.cutPower(cut, 1));
            }
            CHECK.due("finestCut", size, x.finestCut(1000000000));
            CHECK.due("the state now has its own returns", 2, x.power(0));
            x.setReturn(size, 10);
            CHECK.due("no steady state now", -5, x.power(0));
            CHECK.due("but with a cut", 2, x.cutPower(size, 0));
            CHECK.due("finestCut as before", size, x.finestCut(2));
        }
    }

    private static void cutReturnsTheSizesBelowIt() {
        for (int size = 0; size < 3; size++) {
            Circuit x = new Circuit();
            x.setFeed(size, 1);
            x.setBreakage(size, 2, 0, 0);
            for (int cut = 0; cut <= size + 1; cut++) {
                CHECK.due("cutPower(" + cut + ") of size " + size, cut <= size ? 1 : 5, x.cutPower(cut, 0));
            }
        }
    }

    /** Promise 12: "whose power is at most the limit", where the power is no whole number. */
    private static void limitOfAFraction() {
        Circuit x = new Circuit();
        x.setFeed(0, 10);
        x.setBreakage(0, 3, 0, 0);
        CHECK.fraction("cutPower(1)", 100, 3, x.cutPower(1, 0), x.cutPower(1, 1));
        CHECK.due("finestCut(33)", 0, x.finestCut(33));
        CHECK.due("finestCut(34)", 1, x.finestCut(34));
    }

    /** Promise 12: "the greatest cut, from 0 to 4", with the limit at and just below each power. */
    private static void limitByCuts() {
        Circuit x = new Circuit();
        x.setBreakage(0, 5, 0, 0);
        x.setBreakage(1, 5, 0, 0);
        x.setBreakage(2, 5, 0, 0);
        x.setFeed(0, 8);
        int[] powers = {8, 16, 32, 48};
        for (int cut = 0; cut < 4; cut++) {
            CHECK.due("finestCut at the power", cut, x.finestCut(powers[cut]));
            CHECK.due("finestCut just below", cut == 0 ? -7 : cut - 1, x.finestCut(powers[cut] - 1));
            CHECK.due("finestCut just above", cut, x.finestCut(powers[cut] + 1));
        }
        x.setFeed(0, 0);
        CHECK.due("cut 4 has a steady state without feed", 4, x.finestCut(0));
        equalPowers();
    }

    /** Cuts of equal power: the greatest is due. */
    private static void equalPowers() {
        Circuit x = new Circuit();
        x.setFeed(3, 5);
        for (int cut = 0; cut < 4; cut++) {
            CHECK.due("equal power", 5, x.cutPower(cut, 0));
        }
        CHECK.due("the greatest of equal ones", 3, x.finestCut(5));
        CHECK.due("none of equal ones", -7, x.finestCut(4));
    }

    /** Promise 12: "NONE if there is no such cut". */
    private static void noCutWithinTheLimit() {
        Circuit x = new Circuit();
        for (int size = 0; size < 4; size++) {
            x.setFeed(size, 1000);
            x.setWork(size, 100);
        }
        CHECK.due("finestCut just below the least power", -7, x.finestCut(399999));
        CHECK.due("finestCut of the least power", 0, x.finestCut(400000));
        for (int size = 0; size < 4; size++) {
            x.setWork(size, 0);
        }
        CHECK.due("finestCut(0) without work", 0, x.finestCut(0));
    }
}
