/** States of a circuit in which the tests try calls. */
enum Scene {
    /** As the constructor leaves it. */
    NEW {
        @Override
        void play(Circuit x) {
        }
    },

    /** All settings differ from the initial ones; lots in every state; both slots are filled. */
    BUSY {
        @Override
        void play(Circuit x) {
            x.setBreakage(0, 3, 2, 1);
            x.setBreakage(1, 5, 1, 0);
            x.setBreakage(2, 6, 0, 0);
            int[] returns = {10, 5, 3, 1};
            for (int size = 0; size < 4; size++) {
                x.setReturn(size, returns[size]);
                x.setWork(size, 7 - size);
                x.setFeed(size, 100 - 20 * size);
            }
            x.setRate(7);
            x.addLot(0, 0, 0, 9);
            x.addLot(100, 40, 0, 0);
            x.save(0);
            x.advance(3);
            x.setRule(GrindingCircuit.HEAVIEST);
            x.addLot(20, 0, 0, 5);
            x.addLot(0, 30, 30, 0);
            x.planLot(40, 5, 6, 7, 8);
            x.planLot(1000, 1, 0, 0, 0);
            x.save(1);
            x.advance(2);
            x.setRule(GrindingCircuit.COARSEST);
        }
    },

    /** There is no steady state; a lot is planned; the mill is idle; nothing is saved. */
    STUCK {
        @Override
        void play(Circuit x) {
            x.setReturn(3, 10);
            x.setFeed(3, 1);
            x.planLot(9, 1, 2, 3, 4);
            x.advance(4);
        }
    },

    /** Forty lots were created; slot 0 alone is filled, with no lots in it. */
    FULL {
        @Override
        void play(Circuit x) {
            x.save(0);
            x.setRate(100);
            for (int lot = 0; lot < 35; lot++) {
                x.addLot(lot + 1, 0, 0, 0);
            }
            for (int lot = 35; lot < 40; lot++) {
                x.planLot(lot, 0, 0, 0, 1);
            }
            x.advance(10);
        }
    };

    private String untouched;

    abstract void play(Circuit x);

    Circuit make() {
        Circuit x = new Circuit();
        play(x);
        return x;
    }

    /** The whole state of this scene if no call follows. */
    String untouched() {
        if (untouched == null) {
            untouched = State.whole(make());
        }
        return untouched;
    }

    /** The answer is the one that is due, and nothing has changed by the call. */
    void keeps(Check check, long due, String name, int... arguments) {
        StringBuilder call = new StringBuilder(this + ": " + name + "(");
        for (int i = 0; i < arguments.length; i++) {
            call.append(i == 0 ? "" : ",").append(arguments[i]);
        }
        call.append(")");
        Circuit x = make();
        check.due(call.toString(), due, x.call(name, arguments));
        check.holds(call + " changes nothing", untouched().equals(State.whole(x)));
    }
}
