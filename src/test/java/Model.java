import java.math.BigInteger;
import java.util.ArrayList;
import java.util.Comparator;
import java.util.List;

/**
 * The document once more, in the plainest way and with the whole Java library: fractions of any
 * size, every minute by itself, the bin as a list. ModelTest compares the class with it.
 */
public final class Model {
    /** A fraction in lowest terms. */
    private record Fraction(BigInteger top, BigInteger bottom) {
        static Fraction of(long value) {
            return new Fraction(BigInteger.valueOf(value), BigInteger.ONE);
        }

        private static Fraction reduced(BigInteger top, BigInteger bottom) {
            BigInteger divisor = top.gcd(bottom);
            return new Fraction(top.divide(divisor), bottom.divide(divisor));
        }

        Fraction plus(Fraction other) {
            return reduced(top.multiply(other.bottom).add(other.top.multiply(bottom)), bottom.multiply(other.bottom));
        }

        Fraction minus(Fraction other) {
            return plus(new Fraction(other.top.negate(), other.bottom));
        }

        Fraction times(Fraction other) {
            return reduced(top.multiply(other.top), bottom.multiply(other.bottom));
        }

        Fraction over(Fraction other) {
            return reduced(top.multiply(other.bottom), bottom.multiply(other.top));
        }

        boolean isZero() {
            return top.signum() == 0;
        }

        long part(int part) {
            return (part == 0 ? top : bottom).longValueExact();
        }
    }

    private static final class Ore {
        int[] masses;
        int comesAt;
        int passes;
        boolean planned;

        int total() {
            return masses[0] + masses[1] + masses[2] + masses[3];
        }

        Ore copy() {
            Ore copy = new Ore();
            copy.masses = masses.clone();
            copy.comesAt = comesAt;
            copy.passes = passes;
            copy.planned = planned;
            return copy;
        }
    }

    private int[][] broken = new int[4][4];
    private int[] back = new int[4];
    private int[] work = {1, 1, 1, 1};
    private int[] feed = new int[4];
    private int rate = 10;
    private int rule = 0;
    private List<Ore> lots = new ArrayList<>();
    private List<Integer> came = new ArrayList<>();
    private Integer inMill = null;
    private int minutesLeft = 0;
    private int now = 0;
    private long energy = 0;
    private long returned = 0;
    private int[] out = new int[4];
    private final Model[] kept = new Model[2];

    private void take(Model other) {
        broken = new int[4][];
        for (int i = 0; i < 4; i++) {
            broken[i] = other.broken[i].clone();
        }
        back = other.back.clone();
        work = other.work.clone();
        feed = other.feed.clone();
        rate = other.rate;
        rule = other.rule;
        lots = new ArrayList<>();
        other.lots.forEach(lot -> lots.add(lot.copy()));
        came = new ArrayList<>(other.came);
        inMill = other.inMill;
        minutesLeft = other.minutesLeft;
        now = other.now;
        energy = other.energy;
        returned = other.returned;
        out = other.out.clone();
    }

    private static boolean size(int size) {
        return size >= 0 && size <= 3;
    }

    private int toShare(int i, int j) {
        if (j < i) {
            return 0;
        }
        return j > i ? broken[i][j] : 10 - broken[i][0] - broken[i][1] - broken[i][2] - broken[i][3];
    }

    public int setBreakage(int size, int one, int two, int three) {
        if (!size(size)) {
            return -1;
        }
        int[] shares = {one, two, three};
        int[] row = new int[4];
        long sum = 0;
        for (int i = 0; i < 3; i++) {
            if (shares[i] < 0 || shares[i] > 10) {
                return -3;
            }
            sum += shares[i];
            if (size + 1 + i <= 3) {
                row[size + 1 + i] = shares[i];
            } else if (shares[i] != 0) {
                return -3;
            }
        }
        if (sum > 10) {
            return -3;
        }
        broken[size] = row;
        return toShare(size, size);
    }

    public int share(int from, int to) {
        return size(from) && size(to) ? toShare(from, to) : -1;
    }

    private static int put(int[] row, int size, int value, int most) {
        if (!size(size)) {
            return -1;
        }
        if (value < 0 || value > most) {
            return -3;
        }
        int old = row[size];
        row[size] = value;
        return old;
    }

    public int setReturn(int size, int share) {
        return put(back, size, share, 10);
    }

    public int setWork(int size, int value) {
        return put(work, size, value, 100);
    }

    public int setFeed(int size, int mass) {
        return put(feed, size, mass, 1000);
    }

    private Fraction discharge(Fraction[] loads, int size) {
        Fraction sum = Fraction.of(0);
        for (int i = 0; i <= size; i++) {
            sum = sum.plus(loads[i].times(Fraction.of(toShare(i, size))));
        }
        return sum.over(Fraction.of(10));
    }

    /** Null if there is no steady state. */
    private Fraction[] loads(int[] returns) {
        Fraction[] loads = {Fraction.of(0), Fraction.of(0), Fraction.of(0), Fraction.of(0)};
        for (int j = 0; j < 4; j++) {
            Fraction shareBack = Fraction.of(returns[j]).over(Fraction.of(10));
            Fraction others = discharge(loads, j);
            if (returns[j] == 10 && toShare(j, j) == 10) {
                if (feed[j] != 0 || !others.isZero()) {
                    return null;
                }
                continue;
            }
            Fraction cycle = shareBack.times(Fraction.of(toShare(j, j)).over(Fraction.of(10)));
            loads[j] = Fraction.of(feed[j]).plus(others.times(shareBack)).over(Fraction.of(1).minus(cycle));
        }
        return loads;
    }

    private Fraction powerWith(int[] returns) {
        Fraction[] loads = loads(returns);
        if (loads == null) {
            return null;
        }
        Fraction sum = Fraction.of(0);
        for (int i = 0; i < 4; i++) {
            sum = sum.plus(loads[i].times(Fraction.of(work[i])));
        }
        return sum;
    }

    private static int[] sharp(int cut) {
        int[] returns = new int[4];
        for (int i = 0; i < cut; i++) {
            returns[i] = 10;
        }
        return returns;
    }

    private static boolean part(int part) {
        return part == 0 || part == 1;
    }

    public long load(int size, int part) {
        if (!size(size)) {
            return -1;
        }
        if (!part(part)) {
            return -3;
        }
        Fraction[] loads = loads(back);
        return loads == null ? -5 : loads[size].part(part);
    }

    public long product(int size, int part) {
        if (!size(size)) {
            return -1;
        }
        if (!part(part)) {
            return -3;
        }
        Fraction[] loads = loads(back);
        if (loads == null) {
            return -5;
        }
        Fraction discharge = discharge(loads, size);
        return discharge.minus(discharge.times(Fraction.of(back[size])).over(Fraction.of(10))).part(part);
    }

    public long circulatingLoad(int part) {
        if (!part(part)) {
            return -3;
        }
        Fraction[] loads = loads(back);
        if (loads == null) {
            return -5;
        }
        Fraction fed = Fraction.of(feed[0] + feed[1] + feed[2] + feed[3]);
        if (fed.isZero()) {
            return -7;
        }
        Fraction all = loads[0].plus(loads[1]).plus(loads[2]).plus(loads[3]);
        return all.minus(fed).over(fed).part(part);
    }

    public long power(int part) {
        if (!part(part)) {
            return -3;
        }
        Fraction power = powerWith(back);
        return power == null ? -5 : power.part(part);
    }

    public long cutPower(int cut, int part) {
        if (cut < 0 || cut > 4 || !part(part)) {
            return -3;
        }
        Fraction power = powerWith(sharp(cut));
        return power == null ? -5 : power.part(part);
    }

    public int finestCut(int limit) {
        if (limit < 0 || limit > 1000000000) {
            return -3;
        }
        int found = -7;
        for (int cut = 0; cut <= 4; cut++) {
            Fraction power = powerWith(sharp(cut));
            if (power != null && power.minus(Fraction.of(limit)).top.signum() <= 0) {
                found = cut;
            }
        }
        return found;
    }

    private static boolean masses(int... masses) {
        int sum = 0;
        for (int mass : masses) {
            if (mass < 0 || mass > 200) {
                return false;
            }
            sum += mass;
        }
        return sum > 0;
    }

    private Ore newLot(int... masses) {
        Ore lot = new Ore();
        lot.masses = masses;
        lots.add(lot);
        return lot;
    }

    public int addLot(int a, int b, int c, int d) {
        if (!masses(a, b, c, d)) {
            return -3;
        }
        if (lots.size() == 40) {
            return -4;
        }
        newLot(a, b, c, d);
        came.add(lots.size() - 1);
        start();
        return lots.size() - 1;
    }

    public int planLot(int delay, int a, int b, int c, int d) {
        if (delay < 1 || delay > 1000 || !masses(a, b, c, d)) {
            return -3;
        }
        if (lots.size() == 40) {
            return -4;
        }
        Ore lot = newLot(a, b, c, d);
        lot.planned = true;
        lot.comesAt = now + delay;
        return lots.size() - 1;
    }

    /** A stable sort keeps lots that are equal by the rule in the order in which they came. */
    private List<Integer> order() {
        List<Integer> order = new ArrayList<>(came);
        if (rule == 1) {
            order.sort(Comparator.comparingInt((Integer lot) -> -lots.get(lot).total()));
        } else if (rule == 2) {
            order.sort((one, two) -> java.util.Arrays.compare(lots.get(two).masses, lots.get(one).masses));
        }
        return order;
    }

    private void start() {
        if (inMill == null && !came.isEmpty()) {
            inMill = order().get(0);
            came.remove(inMill);
            minutesLeft = (int) Math.ceil(lots.get(inMill).total() / (double) rate);
        }
    }

    private void finish() {
        Ore lot = lots.get(inMill);
        int[] ground = new int[4];
        for (int i = 0; i < 4; i++) {
            energy += (long) work[i] * lot.masses[i];
            int stays = lot.masses[i];
            for (int j = i + 1; j < 4; j++) {
                ground[j] += lot.masses[i] * toShare(i, j) / 10;
                stays -= lot.masses[i] * toShare(i, j) / 10;
            }
            ground[i] += stays;
        }
        for (int i = 0; i < 4; i++) {
            lot.masses[i] = ground[i] * back[i] / 10;
            out[i] += ground[i] - lot.masses[i];
        }
        returned += lot.total();
        lot.passes++;
        if (lot.total() != 0) {
            came.add(inMill);
        }
        inMill = null;
    }

    public int advance(int minutes) {
        if (minutes < 1 || minutes > 500) {
            return -3;
        }
        for (int minute = 0; minute < minutes; minute++) {
            now++;
            if (inMill != null && --minutesLeft == 0) {
                finish();
            }
            for (int lot = 0; lot < lots.size(); lot++) {
                if (lots.get(lot).planned && lots.get(lot).comesAt == now) {
                    lots.get(lot).planned = false;
                    came.add(lot);
                }
            }
            start();
        }
        return now;
    }

    public int setRate(int value) {
        if (value < 1 || value > 100) {
            return -3;
        }
        int old = rate;
        rate = value;
        return old;
    }

    public int setRule(int value) {
        if (value < 0 || value > 2) {
            return -3;
        }
        int old = rule;
        rule = value;
        return old;
    }

    public int bin(int index) {
        if (index == -1) {
            return came.size();
        }
        return index >= 0 && index < came.size() ? order().get(index) : -7;
    }

    public int mill(int what) {
        if (!part(what)) {
            return -3;
        }
        if (inMill == null) {
            return -7;
        }
        return what == 0 ? inMill : minutesLeft;
    }

    private boolean created(int lot) {
        return lot >= 0 && lot < lots.size();
    }

    public int state(int lot) {
        if (!created(lot)) {
            return -2;
        }
        if (lots.get(lot).planned) {
            return 0;
        }
        if (came.contains(lot)) {
            return 1;
        }
        return inMill != null && inMill == lot ? 2 : 3;
    }

    public int mass(int lot, int size) {
        if (!created(lot)) {
            return -2;
        }
        if (size == -1) {
            return lots.get(lot).total();
        }
        return size(size) ? lots.get(lot).masses[size] : -1;
    }

    public int passes(int lot) {
        return created(lot) ? lots.get(lot).passes : -2;
    }

    public int produced(int size) {
        if (size == -1) {
            return out[0] + out[1] + out[2] + out[3];
        }
        return size(size) ? out[size] : -1;
    }

    public int total(int what) {
        long[] totals = {now, lots.size(), energy, returned};
        return what >= 0 && what <= 3 ? (int) totals[what] : -3;
    }

    public int save(int slot) {
        if (!part(slot)) {
            return -3;
        }
        kept[slot] = new Model();
        kept[slot].take(this);
        return now;
    }

    public int restore(int slot) {
        if (!part(slot)) {
            return -3;
        }
        if (kept[slot] == null) {
            return -6;
        }
        take(kept[slot]);
        return now;
    }
}
