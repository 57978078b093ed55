/** The four examples of the document's 'Description'. */
public final class ExamplesTest {
    private static final Check CHECK = new Check();

    public static void main(String[] args) {
        coarseFeedThatIsReturned();
        lotThatIsGroundTwice();
        binByItsRules();
        noSteadyStateAndErrors();
        CHECK.end();
    }

    private static void coarseFeedThatIsReturned() {
        Circuit x = new Circuit();
        CHECK.due("1: setBreakage(0,3,2,1)", 4, x.setBreakage(0, 3, 2, 1));
        CHECK.due("1: setReturn(0,10)", 0, x.setReturn(0, 10));
        CHECK.due("1: setFeed(0,60)", 0, x.setFeed(0, 60));
        CHECK.due("1: load(0,0)", 100, x.load(0, 0));
        CHECK.due("1: load(0,1)", 1, x.load(0, 1));
        CHECK.due("1: product(1,0)", 30, x.product(1, 0));
        CHECK.due("1: product(1,1)", 1, x.product(1, 1));
        CHECK.due("1: circulatingLoad(0)", 2, x.circulatingLoad(0));
        CHECK.due("1: circulatingLoad(1)", 3, x.circulatingLoad(1));
        CHECK.due("1: power(0)", 100, x.power(0));
    }

    private static void lotThatIsGroundTwice() {
        Circuit x = new Circuit();
        CHECK.due("2: setBreakage(0,5,0,0)", 5, x.setBreakage(0, 5, 0, 0));
        CHECK.due("2: setReturn(0,10)", 0, x.setReturn(0, 10));
        CHECK.due("2: addLot(100,0,0,0)", 0, x.addLot(100, 0, 0, 0));
        CHECK.due("2: mill(1)", 10, x.mill(1));
        CHECK.due("2: advance(10)", 10, x.advance(10));
        CHECK.due("2: mass(0,-1)", 50, x.mass(0, -1));
        CHECK.due("2: produced(1)", 50, x.produced(1));
        CHECK.due("2: mill(1) again", 5, x.mill(1));
        CHECK.due("2: advance(5)", 15, x.advance(5));
        CHECK.due("2: passes(0)", 2, x.passes(0));
    }

    private static void binByItsRules() {
        Circuit x = new Circuit();
        CHECK.due("3: addLot(50,0,0,0)", 0, x.addLot(50, 0, 0, 0));
        CHECK.due("3: addLot(20,0,0,0)", 1, x.addLot(20, 0, 0, 0));
        CHECK.due("3: addLot(0,30,0,0)", 2, x.addLot(0, 30, 0, 0));
        CHECK.due("3: setRule(1)", 0, x.setRule(1));
        CHECK.due("3: bin(0)", 2, x.bin(0));
        CHECK.due("3: setRule(2)", 1, x.setRule(2));
        CHECK.due("3: bin(0) again", 1, x.bin(0));
        CHECK.due("3: bin(1)", 2, x.bin(1));
        CHECK.due("3: advance(5)", 5, x.advance(5));
        CHECK.due("3: mill(0)", 1, x.mill(0));
        CHECK.due("3: state(0)", 3, x.state(0));
    }

    private static void noSteadyStateAndErrors() {
        Circuit x = new Circuit();
        CHECK.due("4: setReturn(3,10)", 0, x.setReturn(3, 10));
        CHECK.due("4: power(0)", 0, x.power(0));
        CHECK.due("4: setFeed(3,1)", 0, x.setFeed(3, 1));
        CHECK.due("4: power(0) again", -5, x.power(0));
        CHECK.due("4: cutPower(3,0)", 1, x.cutPower(3, 0));
        CHECK.due("4: setBreakage(2,0,1,0)", -3, x.setBreakage(2, 0, 1, 0));
        CHECK.due("4: addLot(0,0,0,0)", -3, x.addLot(0, 0, 0, 0));
        CHECK.due("4: mill(0)", -7, x.mill(0));
        CHECK.due("4: circulatingLoad(2)", -3, x.circulatingLoad(2));
    }
}
