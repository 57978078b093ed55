/** A closed grinding circuit: an exact steady-state mass balance, and a simulation of lots of ore. */
public final class GrindingCircuit {
    public static final int NO_SUCH_SIZE = -1, NO_SUCH_LOT = -2, BAD_VALUE = -3, TOO_MANY = -4,
            NO_STEADY_STATE = -5, NOT_SAVED = -6, NONE = -7;
    public static final int FIRST = 0, HEAVIEST = 1, COARSEST = 2;
    public static final int PLANNED = 0, BIN = 1, MILL = 2, DONE = 3;

    private static final int SIZES = 4;
    private static final int WHOLE = 10;
    private static final int MAX_WORK = 100;
    private static final int MAX_FEED = 1000;
    private static final int MAX_LIMIT = 1000000000;
    private static final int MAX_LOTS = 40;
    private static final int MAX_LOT_MASS = 200;
    private static final int MAX_DELAY = 1000;
    private static final int MAX_MINUTES = 500;
    private static final int MAX_RATE = 100;
    private static final int SLOTS = 2;
    private static final int ALL = -1;
    private static final int NO_LOT = -1;
    private static final int NEVER = 2147483647;
    // Euclid's algorithm takes fewer than 100 steps for any two longs.
    private static final int GCD_STEPS = 100;

    private final Plant plant = new Plant();
    private final Plant[] slots = {new Plant(), new Plant()};
    private final boolean[] slotFilled = new boolean[SLOTS];
    private final SteadyState steady = new SteadyState();

    public GrindingCircuit() {
    }

    // ---- settings

    public int setBreakage(int size, int one, int two, int three) {
        if (!isSize(size)) {
            return NO_SUCH_SIZE;
        }
        if (!isShareTo(size + 1, one) || !isShareTo(size + 2, two) || !isShareTo(size + 3, three)) {
            return BAD_VALUE;
        }
        if (one + two + three > WHOLE) {
            return BAD_VALUE;
        }
        Settings settings = plant.settings;
        settings.putShare(size, size + 1, one);
        settings.putShare(size, size + 2, two);
        settings.putShare(size, size + 3, three);
        int stays = WHOLE - one - two - three;
        settings.putShare(size, size, stays);
        return stays;
    }

    public int share(int from, int to) {
        if (!isSize(from) || !isSize(to)) {
            return NO_SUCH_SIZE;
        }
        return plant.settings.shares[from][to];
    }

    public int setReturn(int size, int share) {
        return exchange(plant.settings.returns, size, share, WHOLE);
    }

    public int setWork(int size, int work) {
        return exchange(plant.settings.works, size, work, MAX_WORK);
    }

    public int setFeed(int size, int mass) {
        return exchange(plant.settings.feeds, size, mass, MAX_FEED);
    }

    // ---- steady state

    public long load(int size, int part) {
        if (!isSize(size)) {
            return NO_SUCH_SIZE;
        }
        if (!isZeroOrOne(part)) {
            return BAD_VALUE;
        }
        steady.solve(plant.settings, plant.settings.returns);
        if (!steady.exists) {
            return NO_STEADY_STATE;
        }
        return partOf(steady.loads[size], steady.scale, part);
    }

    public long product(int size, int part) {
        if (!isSize(size)) {
            return NO_SUCH_SIZE;
        }
        if (!isZeroOrOne(part)) {
            return BAD_VALUE;
        }
        Settings settings = plant.settings;
        steady.solve(settings, settings.returns);
        if (!steady.exists) {
            return NO_STEADY_STATE;
        }
        long discharged = steady.brokenInto(settings, size)
                + steady.loads[size] * settings.shares[size][size];
        long passing = WHOLE - settings.returns[size];
        return partOf(discharged * passing, steady.scale * WHOLE * WHOLE, part);
    }

    public long circulatingLoad(int part) {
        if (!isZeroOrOne(part)) {
            return BAD_VALUE;
        }
        steady.solve(plant.settings, plant.settings.returns);
        if (!steady.exists) {
            return NO_STEADY_STATE;
        }
        long fed = sum(plant.settings.feeds) * steady.scale;
        if (fed == 0) {
            return NONE;
        }
        return partOf(steady.sumOfLoads() - fed, fed, part);
    }

    public long power(int part) {
        if (!isZeroOrOne(part)) {
            return BAD_VALUE;
        }
        steady.solve(plant.settings, plant.settings.returns);
        if (!steady.exists) {
            return NO_STEADY_STATE;
        }
        return partOf(steady.scaledPower(plant.settings.works), steady.scale, part);
    }

    public long cutPower(int cut, int part) {
        if (!isWithin(cut, 0, SIZES) || !isZeroOrOne(part)) {
            return BAD_VALUE;
        }
        steady.solveCut(plant.settings, cut);
        if (!steady.exists) {
            return NO_STEADY_STATE;
        }
        return partOf(steady.scaledPower(plant.settings.works), steady.scale, part);
    }

    public int finestCut(int limit) {
        if (!isWithin(limit, 0, MAX_LIMIT)) {
            return BAD_VALUE;
        }
        for (int cut = SIZES; cut >= 0; cut--) {
            steady.solveCut(plant.settings, cut);
            if (steady.exists && steady.scaledPower(plant.settings.works) <= limit * steady.scale) {
                return cut;
            }
        }
        return NONE;
    }

    // ---- simulation

    public int addLot(int a, int b, int c, int d) {
        if (!areLotMasses(a, b, c, d)) {
            return BAD_VALUE;
        }
        Simulation simulation = plant.simulation;
        int number = simulation.create(a, b, c, d);
        if (!simulation.hasLot(number)) {
            return TOO_MANY;
        }
        simulation.putIntoBin(simulation.lots[number]);
        simulation.startIfIdle(plant.settings);
        return number;
    }

    public int planLot(int delay, int a, int b, int c, int d) {
        if (!isWithin(delay, 1, MAX_DELAY) || !areLotMasses(a, b, c, d)) {
            return BAD_VALUE;
        }
        Simulation simulation = plant.simulation;
        int number = simulation.create(a, b, c, d);
        if (!simulation.hasLot(number)) {
            return TOO_MANY;
        }
        simulation.plan(simulation.lots[number], delay);
        return number;
    }

    public int advance(int minutes) {
        if (!isWithin(minutes, 1, MAX_MINUTES)) {
            return BAD_VALUE;
        }
        plant.simulation.run(minutes, plant.settings);
        return plant.simulation.time;
    }

    public int setRate(int rate) {
        if (!isWithin(rate, 1, MAX_RATE)) {
            return BAD_VALUE;
        }
        int previous = plant.settings.rate;
        plant.settings.rate = rate;
        return previous;
    }

    public int setRule(int rule) {
        if (!isWithin(rule, FIRST, COARSEST)) {
            return BAD_VALUE;
        }
        int previous = plant.settings.rule;
        plant.settings.rule = rule;
        return previous;
    }

    public int bin(int index) {
        if (index == ALL) {
            return plant.simulation.countBin();
        }
        int number = plant.simulation.lotAt(index, plant.settings.rule);
        return number == NO_LOT ? NONE : number;
    }

    public int mill(int what) {
        if (!isZeroOrOne(what)) {
            return BAD_VALUE;
        }
        Simulation simulation = plant.simulation;
        if (simulation.isIdle()) {
            return NONE;
        }
        return what == 0 ? simulation.ground : simulation.finishTime - simulation.time;
    }

    public int state(int lot) {
        if (!plant.simulation.hasLot(lot)) {
            return NO_SUCH_LOT;
        }
        return plant.simulation.lots[lot].place;
    }

    public int mass(int lot, int size) {
        if (!plant.simulation.hasLot(lot)) {
            return NO_SUCH_LOT;
        }
        return sizeOrAll(plant.simulation.lots[lot].masses, size);
    }

    public int passes(int lot) {
        if (!plant.simulation.hasLot(lot)) {
            return NO_SUCH_LOT;
        }
        return plant.simulation.lots[lot].timesGround;
    }

    public int produced(int size) {
        return sizeOrAll(plant.simulation.productMasses, size);
    }

    public int total(int what) {
        Simulation simulation = plant.simulation;
        switch (what) {
            case 0:
                return simulation.time;
            case 1:
                return simulation.lotCount;
            case 2:
                return simulation.energy;
            case 3:
                return simulation.returnedMass;
            default:
                return BAD_VALUE;
        }
    }

    // ---- saving

    public int save(int slot) {
        if (!isSlot(slot)) {
            return BAD_VALUE;
        }
        slots[slot].copyFrom(plant);
        slotFilled[slot] = true;
        return plant.simulation.time;
    }

    public int restore(int slot) {
        if (!isSlot(slot)) {
            return BAD_VALUE;
        }
        if (!slotFilled[slot]) {
            return NOT_SAVED;
        }
        plant.copyFrom(slots[slot]);
        return plant.simulation.time;
    }

    // ---- helpers

    private static boolean isWithin(int value, int least, int greatest) {
        return value >= least && value <= greatest;
    }

    private static boolean isSize(int size) {
        return isWithin(size, 0, SIZES - 1);
    }

    private static boolean isZeroOrOne(int value) {
        return value == 0 || value == 1;
    }

    private static boolean isSlot(int slot) {
        return isWithin(slot, 0, SLOTS - 1);
    }

    private static boolean isShareTo(int size, int share) {
        return isWithin(share, 0, isSize(size) ? WHOLE : 0);
    }

    private static boolean isLotMass(int mass) {
        return isWithin(mass, 0, MAX_LOT_MASS);
    }

    private static boolean areLotMasses(int a, int b, int c, int d) {
        return isLotMass(a) && isLotMass(b) && isLotMass(c) && isLotMass(d) && a + b + c + d > 0;
    }

    private static int exchange(int[] values, int size, int value, int greatest) {
        if (!isSize(size)) {
            return NO_SUCH_SIZE;
        }
        if (!isWithin(value, 0, greatest)) {
            return BAD_VALUE;
        }
        int previous = values[size];
        values[size] = value;
        return previous;
    }

    private static int sizeOrAll(int[] masses, int size) {
        if (size == ALL) {
            return sum(masses);
        }
        return isSize(size) ? masses[size] : NO_SUCH_SIZE;
    }

    private static int sum(int[] masses) {
        int sum = 0;
        for (int mass : masses) {
            sum += mass;
        }
        return sum;
    }

    /** The denominator is above 0, so the common divisor is too; the bound shows it to the division. */
    private static long partOf(long numerator, long denominator, int part) {
        long divisor = Math.max(1, commonDivisor(numerator, denominator));
        return (part == 0 ? numerator : denominator) / divisor;
    }

    private static long commonDivisor(long a, long b) {
        long divisor = a;
        long rest = b;
        for (int step = 0; step < GCD_STEPS && rest != 0; step++) {
            long next = divisor % rest;
            divisor = rest;
            rest = next;
        }
        return divisor;
    }

    /** All that a slot keeps. */
    private static final class Plant {
        final Settings settings = new Settings();
        final Simulation simulation = new Simulation();

        void copyFrom(Plant other) {
            settings.copyFrom(other.settings);
            simulation.copyFrom(other.simulation);
        }
    }

    private static final class Settings {
        /** By the size before and the size after grinding; the share that stays stands at [size][size]. */
        final int[][] shares = new int[SIZES][SIZES];
        final int[] returns = new int[SIZES];
        final int[] works = new int[SIZES];
        final int[] feeds = new int[SIZES];
        int rate = 10;
        int rule = FIRST;

        Settings() {
            for (int size = 0; size < SIZES; size++) {
                shares[size][size] = WHOLE;
                works[size] = 1;
            }
        }

        /** A size that is too fine is left out: the share to it is 0. */
        void putShare(int from, int to, int share) {
            if (isSize(from) && isSize(to)) {
                shares[from][to] = share;
            }
        }

        void copyFrom(Settings other) {
            for (int size = 0; size < SIZES; size++) {
                System.arraycopy(other.shares[size], 0, shares[size], 0, SIZES);
            }
            System.arraycopy(other.returns, 0, returns, 0, SIZES);
            System.arraycopy(other.works, 0, works, 0, SIZES);
            System.arraycopy(other.feeds, 0, feeds, 0, SIZES);
            rate = other.rate;
            rule = other.rule;
        }
    }

    /**
     * The loads that were solved last, as whole numbers over one scale. The scale is at most 100 to
     * the power of 4 and the loads together are below 200000, so that no long overflows here.
     */
    private static final class SteadyState {
        final long[] loads = new long[SIZES];
        final int[] cutReturns = new int[SIZES];
        long scale = 1;
        boolean exists = true;

        void solveCut(Settings settings, int cut) {
            for (int size = 0; size < SIZES; size++) {
                cutReturns[size] = size < cut ? WHOLE : 0;
            }
            solve(settings, cutReturns);
        }

        /** Ore is only broken to finer sizes, so the coarser loads are known when a size is solved. */
        void solve(Settings settings, int[] returns) {
            scale = 1;
            exists = true;
            for (int size = 0; size < SIZES; size++) {
                solveSize(settings, size, returns[size]);
            }
        }

        private void solveSize(Settings settings, int size, int returnShare) {
            long entering = brokenInto(settings, size);
            int feed = settings.feeds[size];
            int leaving = WHOLE * WHOLE - returnShare * settings.shares[size][size];
            if (leaving == 0) {
                loads[size] = 0;
                exists = exists && feed == 0 && entering == 0;
                return;
            }
            loads[size] = WHOLE * WHOLE * feed * scale + returnShare * entering;
            scale *= leaving;
            for (int coarser = 0; coarser < size; coarser++) {
                loads[coarser] *= leaving;
            }
        }

        /** What comes from the coarser sizes, in tenths of the scale. */
        long brokenInto(Settings settings, int size) {
            long broken = 0;
            for (int coarser = 0; coarser < size; coarser++) {
                broken += loads[coarser] * settings.shares[coarser][size];
            }
            return broken;
        }

        long sumOfLoads() {
            long sum = 0;
            for (long load : loads) {
                sum += load;
            }
            return sum;
        }

        long scaledPower(int[] works) {
            long power = 0;
            for (int size = 0; size < SIZES; size++) {
                power += works[size] * loads[size];
            }
            return power;
        }
    }

    private static final class Lot {
        final int[] masses = new int[SIZES];
        int place;
        int comesAt;
        int arrival;
        int timesGround;

        void copyFrom(Lot other) {
            System.arraycopy(other.masses, 0, masses, 0, SIZES);
            place = other.place;
            comesAt = other.comesAt;
            arrival = other.arrival;
            timesGround = other.timesGround;
        }

        boolean standsBefore(Lot other, int rule) {
            int difference = 0;
            if (rule == HEAVIEST) {
                difference = sum(masses) - sum(other.masses);
            } else if (rule == COARSEST) {
                difference = coarserBy(other);
            }
            return difference == 0 ? arrival < other.arrival : difference > 0;
        }

        private int coarserBy(Lot other) {
            for (int size = 0; size < SIZES; size++) {
                if (masses[size] != other.masses[size]) {
                    return masses[size] - other.masses[size];
                }
            }
            return 0;
        }

        int energyToGrind(int[] works) {
            int energy = 0;
            for (int size = 0; size < SIZES; size++) {
                energy += works[size] * masses[size];
            }
            return energy;
        }

        /** The finest size goes first, so that what has been broken is not broken again. */
        void breakOre(int[][] shares) {
            for (int size = SIZES - 1; size >= 0; size--) {
                int before = masses[size];
                for (int finer = size + 1; finer < SIZES; finer++) {
                    int broken = before * shares[size][finer] / WHOLE;
                    masses[finer] += broken;
                    masses[size] -= broken;
                }
            }
        }

        void classify(int[] returns, int[] productMasses) {
            for (int size = 0; size < SIZES; size++) {
                int returned = masses[size] * returns[size] / WHOLE;
                productMasses[size] += masses[size] - returned;
                masses[size] = returned;
            }
        }
    }

    private static final class Simulation {
        final Lot[] lots = new Lot[MAX_LOTS];
        final int[] productMasses = new int[SIZES];
        int lotCount;
        int time;
        int arrivals;
        int ground = NO_LOT;
        int finishTime;
        // 512 calls can spend more energy than an int holds: it wraps around, as the int answer does.
        int energy;
        int returnedMass;

        Simulation() {
            for (int number = 0; number < MAX_LOTS; number++) {
                lots[number] = new Lot();
            }
        }

        void copyFrom(Simulation other) {
            for (int number = 0; number < other.lotCount; number++) {
                lots[number].copyFrom(other.lots[number]);
            }
            System.arraycopy(other.productMasses, 0, productMasses, 0, SIZES);
            lotCount = other.lotCount;
            time = other.time;
            arrivals = other.arrivals;
            ground = other.ground;
            finishTime = other.finishTime;
            energy = other.energy;
            returnedMass = other.returnedMass;
        }

        boolean isIdle() {
            return !hasLot(ground);
        }

        boolean hasLot(int number) {
            return number >= 0 && number < lotCount;
        }

        /**
         * The new lot's number, or NO_LOT if there are too many. The lot's row may have been used
         * before a restore, so all of it is set anew.
         */
        int create(int a, int b, int c, int d) {
            if (lotCount >= MAX_LOTS) {
                return NO_LOT;
            }
            int number = lotCount;
            Lot lot = lots[number];
            lot.masses[0] = a;
            lot.masses[1] = b;
            lot.masses[2] = c;
            lot.masses[3] = d;
            lot.timesGround = 0;
            lotCount++;
            return number;
        }

        void plan(Lot lot, int delay) {
            lot.place = PLANNED;
            lot.comesAt = time + delay;
        }

        void putIntoBin(Lot lot) {
            lot.place = BIN;
            lot.arrival = arrivals;
            arrivals++;
        }

        /** Every event is a minute at least after the one before, which bounds the loop. */
        void run(int minutes, Settings settings) {
            int end = time + minutes;
            for (int events = 0; events < minutes; events++) {
                int next = nextEvent();
                if (next > end) {
                    break;
                }
                time = next;
                finishIfDue(settings);
                takePlannedLots();
                startIfIdle(settings);
            }
            time = end;
        }

        private int nextEvent() {
            int next = isIdle() ? NEVER : finishTime;
            for (int number = 0; number < lotCount; number++) {
                Lot lot = lots[number];
                if (lot.place == PLANNED) {
                    next = Math.min(next, lot.comesAt);
                }
            }
            return next;
        }

        private void finishIfDue(Settings settings) {
            if (isIdle() || finishTime != time) {
                return;
            }
            Lot lot = lots[ground];
            ground = NO_LOT;
            energy += lot.energyToGrind(settings.works);
            lot.breakOre(settings.shares);
            lot.classify(settings.returns, productMasses);
            lot.timesGround++;
            int left = sum(lot.masses);
            returnedMass += left;
            if (left == 0) {
                lot.place = DONE;
            } else {
                putIntoBin(lot);
            }
        }

        private void takePlannedLots() {
            for (int number = 0; number < lotCount; number++) {
                Lot lot = lots[number];
                if (lot.place == PLANNED && lot.comesAt == time) {
                    putIntoBin(lot);
                }
            }
        }

        void startIfIdle(Settings settings) {
            if (!isIdle()) {
                return;
            }
            int first = firstOfBin(settings.rule);
            if (!hasLot(first)) {
                return;
            }
            Lot lot = lots[first];
            lot.place = MILL;
            ground = first;
            finishTime = time + minutesToGrind(sum(lot.masses), settings.rate);
        }

        /** Rounded up. setRate lets no rate below 1 in; the bound shows it to the division. */
        private static int minutesToGrind(int mass, int rate) {
            int divisor = Math.max(1, rate);
            return (mass + divisor - 1) / divisor;
        }

        int countBin() {
            int count = 0;
            for (int number = 0; number < lotCount; number++) {
                if (lots[number].place == BIN) {
                    count++;
                }
            }
            return count;
        }

        private int firstOfBin(int rule) {
            int first = NO_LOT;
            for (int number = 0; number < lotCount; number++) {
                Lot lot = lots[number];
                if (lot.place == BIN && (first == NO_LOT || lot.standsBefore(lots[first], rule))) {
                    first = number;
                }
            }
            return first;
        }

        int lotAt(int index, int rule) {
            for (int number = 0; number < lotCount; number++) {
                Lot lot = lots[number];
                if (lot.place == BIN && countBefore(lot, rule) == index) {
                    return number;
                }
            }
            return NO_LOT;
        }

        private int countBefore(Lot lot, int rule) {
            int count = 0;
            for (int number = 0; number < lotCount; number++) {
                Lot other = lots[number];
                if (other.place == BIN && other.standsBefore(lot, rule)) {
                    count++;
                }
            }
            return count;
        }
    }
}
