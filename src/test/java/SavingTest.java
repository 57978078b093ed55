/** Promises 25 and 26: save and restore. */
public final class SavingTest {
    private static final Check CHECK = new Check();

    public static void main(String[] args) {
        wrongSlots();
        allSettings();
        wholeSimulation();
        slotsAreApart();
        slotKeepsWhatWasSaved();
        lotsAfterRestore();
        plannedTimes();
        fortyLots();
        CHECK.end();
    }

    private static void wrongSlots() {
        GrindingCircuit x = new GrindingCircuit();
        for (int slot : new int[] {-1, 2, Integer.MIN_VALUE, Integer.MAX_VALUE}) {
            CHECK.due("save of a wrong slot", -3, x.save(slot));
            CHECK.due("restore of a wrong slot", -3, x.restore(slot));
        }
        CHECK.due("restore(0)", -6, x.restore(0));
        CHECK.due("save(0)", 0, x.save(0));
        CHECK.due("restore(1)", -6, x.restore(1));
        CHECK.due("restore(0) after save", 0, x.restore(0));
        x.advance(7);
        CHECK.due("save(1)", 7, x.save(1));
        CHECK.due("restore(1) after save", 7, x.restore(1));
    }

    private static void allSettings() {
        GrindingCircuit x = new GrindingCircuit();
        x.setBreakage(0, 1, 2, 3);
        x.setBreakage(1, 4, 5, 0);
        x.setBreakage(2, 6, 0, 0);
        for (int size = 0; size < 4; size++) {
            x.setReturn(size, 1 + size);
            x.setWork(size, 11 + size);
            x.setFeed(size, 21 + size);
        }
        x.setRate(31);
        x.setRule(2);
        long power = x.power(0);
        x.save(1);
        for (int size = 0; size < 4; size++) {
            x.setBreakage(size, 0, 0, 0);
            x.setReturn(size, 9);
            x.setWork(size, 9);
            x.setFeed(size, 9);
        }
        x.setRate(9);
        x.setRule(1);
        x.restore(1);
        int[][] shares = {{4, 1, 2, 3}, {0, 1, 4, 5}, {0, 0, 4, 6}, {0, 0, 0, 10}};
        for (int from = 0; from < 4; from++) {
            for (int to = 0; to < 4; to++) {
                CHECK.due("restored share", shares[from][to], x.share(from, to));
            }
        }
        CHECK.due("restored power", power, x.power(0));
        for (int size = 0; size < 4; size++) {
            CHECK.due("restored return share", 1 + size, x.setReturn(size, 0));
            CHECK.due("restored work", 11 + size, x.setWork(size, 0));
            CHECK.due("restored feed", 21 + size, x.setFeed(size, 0));
        }
        CHECK.due("restored rate", 31, x.setRate(1));
        CHECK.due("restored rule", 2, x.setRule(0));
    }

    private static GrindingCircuit running() {
        GrindingCircuit x = new GrindingCircuit();
        x.setBreakage(0, 3, 2, 1);
        x.setReturn(0, 10);
        x.setReturn(1, 5);
        x.addLot(100, 40, 0, 0);
        x.addLot(20, 0, 0, 5);
        x.addLot(0, 0, 0, 3);
        x.planLot(60, 0, 50, 0, 0);
        x.advance(20);
        return x;
    }

    private static String all(GrindingCircuit x) {
        StringBuilder text = new StringBuilder();
        for (int i = -1; i < 41; i++) {
            text.append(x.bin(i)).append(' ').append(x.state(i)).append(' ').append(x.passes(i)).append(' ');
            for (int size = -1; size < 4; size++) {
                text.append(x.mass(i, size)).append(' ');
            }
        }
        for (int i = -1; i < 4; i++) {
            text.append(x.produced(i)).append(' ').append(x.total(i)).append(' ').append(x.mill(i)).append(' ');
        }
        return text.toString();
    }

    private static void wholeSimulation() {
        GrindingCircuit x = running();
        String before = all(x);
        CHECK.due("save(0)", 20, x.save(0));
        CHECK.holds("saving changes nothing", before.equals(all(x)));
        x.advance(50);
        String later = all(x);
        CHECK.holds("the simulation went on", !before.equals(later));
        x.advance(500);
        x.setRate(1);
        x.addLot(9, 9, 9, 9);
        CHECK.due("restore(0)", 20, x.restore(0));
        CHECK.holds("all is restored", before.equals(all(x)));
        x.advance(50);
        CHECK.holds("it goes on as before", later.equals(all(x)));
    }

    private static void slotsAreApart() {
        GrindingCircuit x = running();
        x.save(0);
        String first = all(x);
        x.advance(30);
        x.save(1);
        String second = all(x);
        CHECK.due("restore(0)", 20, x.restore(0));
        CHECK.holds("slot 0", first.equals(all(x)));
        CHECK.due("restore(1)", 50, x.restore(1));
        CHECK.holds("slot 1", second.equals(all(x)));
        CHECK.due("save(0) again", 50, x.save(0));
        x.advance(1);
        CHECK.due("it was overwritten", 50, x.restore(0));
        CHECK.holds("slot 0 overwritten", second.equals(all(x)));
    }

    private static void slotKeepsWhatWasSaved() {
        GrindingCircuit x = running();
        x.save(0);
        String saved = all(x);
        for (int round = 0; round < 3; round++) {
            x.setReturn(0, 0);
            x.setBreakage(0, 0, 0, 0);
            x.advance(100);
            x.addLot(1, 1, 1, 1);
            CHECK.due("restore(0)", 20, x.restore(0));
            CHECK.holds("the slot keeps it", saved.equals(all(x)));
            CHECK.due("share(0,0)", 4, x.share(0, 0));
        }
    }

    /** Numbers of lots are given again after restoring, with nothing left of the earlier lots. */
    private static void lotsAfterRestore() {
        GrindingCircuit x = new GrindingCircuit();
        x.save(0);
        x.setReturn(0, 10);
        for (int lot = 0; lot < 40; lot++) {
            x.addLot(10, 0, 0, 0);
        }
        x.advance(100);
        CHECK.due("full", -4, x.addLot(1, 0, 0, 0));
        x.restore(0);
        CHECK.due("state(0)", -2, x.state(0));
        CHECK.due("bin(-1)", 0, x.bin(-1));
        CHECK.due("mill(0)", -7, x.mill(0));
        CHECK.due("planLot", 0, x.planLot(5, 0, 0, 7, 0));
        CHECK.due("passes", 0, x.passes(0));
        CHECK.due("mass", 7, x.mass(0, -1));
        CHECK.due("state", 0, x.state(0));
        CHECK.due("addLot", 1, x.addLot(0, 3, 0, 0));
        CHECK.due("mill", 1, x.mill(0));
        x.advance(5);
        CHECK.due("done", 3, x.state(1));
        CHECK.due("came", 0, x.mill(0));
    }

    private static void plannedTimes() {
        GrindingCircuit x = new GrindingCircuit();
        x.save(1);
        x.planLot(5, 1, 0, 0, 0);
        x.save(0);
        x.restore(1);
        x.planLot(9, 1, 0, 0, 0);
        x.restore(0);
        x.advance(4);
        CHECK.due("planned", 0, x.state(0));
        x.advance(1);
        CHECK.due("came at its own time", 2, x.state(0));
    }

    private static void fortyLots() {
        GrindingCircuit x = new GrindingCircuit();
        x.setReturn(0, 10);
        for (int lot = 0; lot < 40; lot++) {
            x.addLot(200 - lot, 0, 0, lot);
        }
        x.advance(90);
        String saved = all(x);
        CHECK.due("save(1)", 90, x.save(1));
        x.advance(300);
        CHECK.due("restore(1)", 90, x.restore(1));
        CHECK.holds("forty lots are restored", saved.equals(all(x)));
    }
}
