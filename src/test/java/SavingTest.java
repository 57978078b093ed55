/** Promises 25 and 26: save and restore. What is refused stands in RefusedTest. */
public final class SavingTest {
    private static final Check CHECK = new Check();

    public static void main(String[] args) {
        lastSlotsWithin();
        allSettings();
        wholeSimulation();
        goesOnAsBefore();
        saveChangesNothing();
        overwrites();
        overwritesWithFewerLots();
        slotKeepsWhatWasSaved();
        otherSlotIsLeft();
        slotsAreNoPartOfTheState();
        savedWhileNew();
        lotsAfterRestore();
        plannedTimes();
        fullState();
        refusedCallsKeepTheSlots();
        CHECK.end();
    }

    /** Promise 25: "Returns the time"; 26: "NOT_SAVED if nothing was saved in it", for the other slot too. */
    private static void lastSlotsWithin() {
        for (int slot = 0; slot < 2; slot++) {
            Circuit x = new Circuit();
            CHECK.due("save of a new object", 0, x.save(slot));
            CHECK.due("the other slot", -6, x.restore(1 - slot));
            CHECK.due("restore of a new object", 0, x.restore(slot));
            x.advance(7);
            CHECK.due("the time before restoring is gone", 0, x.restore(slot));
            x.advance(500);
            CHECK.due("save", 500, x.save(slot));
            x.advance(1);
            CHECK.due("the time after restoring", 500, x.restore(slot));
            CHECK.due("the time", 500, x.total(0));
            CHECK.due("the other slot still", -6, x.restore(1 - slot));
        }
    }

    /** Promise 25: "Saves all settings". */
    private static void allSettings() {
        Circuit x = new Circuit();
        x.setBreakage(0, 1, 2, 3);
        x.setBreakage(1, 4, 5, 0);
        x.setBreakage(2, 6, 0, 0);
        for (int size = 0; size < 4; size++) {
            x.setReturn(size, 1 + size);
            x.setWork(size, 11 + size);
            x.setFeed(size, 21 + size);
        }
        x.setRate(31);
        x.setRule(2);
        long power = x.power(0);
        x.save(1);
        for (int size = 0; size < 4; size++) {
            x.setBreakage(size, 0, 0, 0);
            x.setReturn(size, 9);
            x.setWork(size, 9);
            x.setFeed(size, 9);
        }
        x.setRate(9);
        x.setRule(1);
        x.restore(1);
        int[][] shares = {{4, 1, 2, 3}, {0, 1, 4, 5}, {0, 0, 4, 6}, {0, 0, 0, 10}};
        for (int from = 0; from < 4; from++) {
            for (int to = 0; to < 4; to++) {
                CHECK.due("restored share", shares[from][to], x.share(from, to));
            }
        }
        CHECK.due("restored power", power, x.power(0));
        for (int size = 0; size < 4; size++) {
            CHECK.due("restored return share", 1 + size, x.setReturn(size, 0));
            CHECK.due("restored work", 11 + size, x.setWork(size, 0));
            CHECK.due("restored feed", 21 + size, x.setFeed(size, 0));
        }
        CHECK.due("restored rate", 31, x.setRate(1));
        CHECK.due("restored rule", 2, x.setRule(0));
    }

    private static void changeAll(Circuit x) {
        for (int size = 0; size < 4; size++) {
            x.setBreakage(size, 0, 0, 0);
            x.setReturn(size, 9);
            x.setWork(size, 50);
            x.setFeed(size, 999);
        }
        x.setRate(1);
        x.setRule(GrindingCircuit.FIRST);
        x.addLot(9, 9, 9, 9);
        x.planLot(1, 8, 8, 8, 8);
        x.advance(300);
    }

    /** Promise 25: "Saves .. the whole simulation"; 26: "Restores what was saved". */
    private static void wholeSimulation() {
        for (int slot = 0; slot < 2; slot++) {
            Circuit x = Scene.BUSY.make();
            String before = State.now(x);
            CHECK.due("save", 5, x.save(slot));
            changeAll(x);
            CHECK.holds("all has changed", !before.equals(State.now(x)));
            CHECK.due("restore", 5, x.restore(slot));
            CHECK.holds("all is restored", before.equals(State.now(x)));
        }
    }

    /** Promise 25: "the whole simulation": also what only the later course shows. */
    private static void goesOnAsBefore() {
        for (int slot = 0; slot < 2; slot++) {
            Circuit straight = Scene.BUSY.make();
            Circuit x = Scene.BUSY.make();
            x.save(slot);
            changeAll(x);
            x.restore(slot);
            for (int minutes : new int[] {1, 2, 3, 13, 100, 500, 400}) {
                CHECK.due("advance", straight.advance(minutes), x.advance(minutes));
                for (int what = 0; what < 4; what++) {
                    CHECK.due("total later", straight.total(what), x.total(what));
                    CHECK.due("produced later", straight.produced(what), x.produced(what));
                }
                for (int lot = 0; lot < 6; lot++) {
                    CHECK.due("state later", straight.state(lot), x.state(lot));
                    CHECK.due("passes later", straight.passes(lot), x.passes(lot));
                    CHECK.due("mass later", straight.mass(lot, -1), x.mass(lot, -1));
                    CHECK.due("bin later", straight.bin(lot), x.bin(lot));
                }
            }
        }
    }

    private static void saveChangesNothing() {
        for (Scene scene : Scene.values()) {
            Circuit straight = scene.make();
            Circuit x = scene.make();
            x.save(1);
            CHECK.holds(scene + ": saving changes nothing", State.now(straight).equals(State.now(x)));
        }
    }

    /** Promise 25: "overwrites what was saved there"; 26: "what was saved last in a slot". */
    private static void overwrites() {
        for (int slot = 0; slot < 2; slot++) {
            Circuit x = new Circuit();
            x.setFeed(0, 1);
            x.save(slot);
            x.setFeed(0, 2);
            x.advance(3);
            CHECK.due("save again", 3, x.save(slot));
            x.setFeed(0, 3);
            x.advance(3);
            CHECK.due("saved last", 3, x.restore(slot));
            CHECK.due("feed saved last", 2, x.setFeed(0, 0));
        }
    }

    private static void overwritesWithFewerLots() {
        Circuit x = new Circuit();
        x.save(1);
        for (int lot = 0; lot < 5; lot++) {
            x.addLot(50, 0, 0, 0);
        }
        x.planLot(4, 1, 0, 0, 0);
        x.save(0);
        x.restore(1);
        x.addLot(0, 0, 0, 30);
        x.save(0);
        x.addLot(1, 1, 1, 1);
        CHECK.due("restore", 0, x.restore(0));
        CHECK.due("total(1)", 1, x.total(1));
        CHECK.due("bin(-1)", 0, x.bin(-1));
        CHECK.due("mill(0)", 0, x.mill(0));
        CHECK.due("mill(1)", 3, x.mill(1));
        CHECK.due("mass(0,3)", 30, x.mass(0, 3));
        CHECK.due("state(1)", -2, x.state(1));
        CHECK.due("advance", 500, x.advance(500));
        CHECK.due("nothing is left of the other lots", 30, x.produced(-1));
    }

    /** Promise 26: "The slot keeps it". */
    private static void slotKeepsWhatWasSaved() {
        Circuit x = Scene.BUSY.make();
        x.save(0);
        String saved = State.now(x);
        for (int round = 0; round < 3; round++) {
            changeAll(x);
            CHECK.due("restore(0)", 5, x.restore(0));
            CHECK.holds("the slot keeps it", saved.equals(State.now(x)));
        }
    }

    private static void otherSlotIsLeft() {
        for (int slot = 0; slot < 2; slot++) {
            Circuit x = new Circuit();
            x.setReturn(3, 10);
            x.addLot(0, 0, 0, 100);
            x.save(slot);
            x.advance(15);
            x.addLot(7, 0, 0, 0);
            x.save(1 - slot);
            x.advance(100);
            CHECK.due("the first slot", 0, x.restore(slot));
            CHECK.due("its lots", 1, x.total(1));
            CHECK.due("its passes", 0, x.passes(0));
            CHECK.due("the second slot", 15, x.restore(1 - slot));
            CHECK.due("its lots", 2, x.total(1));
            CHECK.due("its passes", 1, x.passes(0));
            CHECK.due("its mill", 5, x.mill(1));
            CHECK.due("save the second state over the first", 15, x.save(slot));
            x.advance(1);
            x.save(1 - slot);
            CHECK.due("the first slot again", 15, x.restore(slot));
            CHECK.due("the second slot again", 16, x.restore(1 - slot));
        }
    }

    /** Promise 25 saves settings and simulation alone: a slot filled later is not emptied by restoring. */
    private static void slotsAreNoPartOfTheState() {
        Circuit x = new Circuit();
        x.save(0);
        x.advance(9);
        x.save(1);
        CHECK.due("restore(0)", 0, x.restore(0));
        CHECK.due("restore(1)", 9, x.restore(1));
        CHECK.due("restore(0) again", 0, x.restore(0));
    }

    private static void savedWhileNew() {
        Circuit x = new Circuit();
        x.save(0);
        changeAll(x);
        x.restore(0);
        CHECK.holds("as new", State.now(new Circuit()).equals(State.now(x)));
    }

    /** Numbers of lots are given again after restoring, with nothing left of the earlier lots. */
    private static void lotsAfterRestore() {
        Circuit x = new Circuit();
        x.save(0);
        x.setReturn(0, 10);
        for (int lot = 0; lot < 40; lot++) {
            x.addLot(10, 0, 0, 0);
        }
        x.advance(100);
        CHECK.due("full", -4, x.addLot(1, 0, 0, 0));
        x.restore(0);
        CHECK.due("state(0)", -2, x.state(0));
        CHECK.due("bin(-1)", 0, x.bin(-1));
        CHECK.due("mill(0)", -7, x.mill(0));
        CHECK.due("planLot", 0, x.planLot(5, 0, 0, 7, 0));
        CHECK.due("passes", 0, x.passes(0));
        CHECK.due("mass", 7, x.mass(0, -1));
        CHECK.due("state", 0, x.state(0));
        CHECK.due("addLot", 1, x.addLot(0, 3, 0, 0));
        CHECK.due("mill", 1, x.mill(0));
        x.advance(5);
        CHECK.due("done", 3, x.state(1));
        CHECK.due("came", 0, x.mill(0));
        for (int lot = 2; lot < 40; lot++) {
            CHECK.due("forty lots again", lot, x.addLot(1, 0, 0, 0));
        }
        CHECK.due("full again", -4, x.planLot(1, 1, 0, 0, 0));
    }

    private static void plannedTimes() {
        Circuit x = new Circuit();
        x.save(1);
        x.planLot(5, 1, 0, 0, 0);
        x.save(0);
        x.restore(1);
        x.planLot(9, 1, 0, 0, 0);
        x.restore(0);
        x.advance(4);
        CHECK.due("planned", 0, x.state(0));
        x.advance(1);
        CHECK.due("came at its own time", 2, x.state(0));
    }

    private static void fullState() {
        Circuit x = new Circuit();
        x.setReturn(0, 10);
        for (int lot = 0; lot < 40; lot++) {
            x.addLot(200 - lot, 0, 0, lot);
        }
        x.advance(90);
        String saved = State.now(x);
        CHECK.due("save(1)", 90, x.save(1));
        x.advance(300);
        CHECK.due("restore(1)", 90, x.restore(1));
        CHECK.holds("forty lots are restored", saved.equals(State.now(x)));
        CHECK.due("full as saved", -4, x.addLot(1, 0, 0, 0));
    }

    /** Conventions: "A call that returns an error changes nothing", so no slot either. */
    private static void refusedCallsKeepTheSlots() {
        Circuit x = new Circuit();
        x.advance(1);
        x.save(0);
        x.advance(1);
        x.save(1);
        x.advance(1);
        for (int slot : new int[] {Integer.MIN_VALUE, -1, 2, Integer.MAX_VALUE}) {
            CHECK.due("save refused", -3, x.save(slot));
            CHECK.due("restore refused", -3, x.restore(slot));
        }
        CHECK.due("the time is kept", 3, x.total(0));
        CHECK.due("slot 0 is kept", 1, x.restore(0));
        CHECK.due("slot 1 is kept", 2, x.restore(1));
    }
}
