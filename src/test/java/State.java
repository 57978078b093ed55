/** All that a circuit answers about its state, as text, so that two states can be compared. */
final class State {
    /** With more lots than these, a lot's total mass stands for its masses: 512 calls are not many. */
    private static final int LOTS_IN_FULL = 10;
    private static final int[] LATER = {1, 6, 30, 400};

    private State() {
    }

    /** The state now; it is as before afterwards. */
    static String now(Circuit x) {
        StringBuilder text = new StringBuilder();
        settings(x, text);
        simulation(x, text);
        lots(x, text);
        return text.toString();
    }

    /** The state now, what comes of it later, and what both slots keep. The circuit is used up by this. */
    static String whole(Circuit x) {
        StringBuilder text = new StringBuilder(now(x));
        for (int minutes : LATER) {
            text.append("\nafter ").append(x.advance(minutes));
            simulation(x, text);
        }
        for (int slot = 0; slot < 2; slot++) {
            int time = x.restore(slot);
            text.append("\nslot ").append(time);
            if (time >= 0) {
                text.append(now(x));
            }
        }
        return text.toString();
    }

    /** Those settings that no call tells are set, which answers the value before, and set back. */
    private static void settings(Circuit x, StringBuilder text) {
        for (int from = 0; from < 4; from++) {
            for (int to = 0; to < 4; to++) {
                put(text, x.share(from, to));
            }
        }
        for (int size = 0; size < 4; size++) {
            for (String setter : new String[] {"setReturn", "setWork", "setFeed"}) {
                int value = (int) x.call(setter, size, 0);
                x.call(setter, size, value);
                put(text, value);
            }
        }
        int rate = x.setRate(1);
        x.setRate(rate);
        put(text, rate);
        int rule = x.setRule(0);
        x.setRule(rule);
        put(text, rule);
        put(text, x.power(0));
        put(text, x.power(1));
    }

    private static void simulation(Circuit x, StringBuilder text) {
        for (int i = 0; i < 4; i++) {
            put(text, x.total(i));
            put(text, x.produced(i));
        }
        put(text, x.mill(0));
        put(text, x.mill(1));
        put(text, x.bin(-1));
        put(text, x.bin(0));
    }

    private static void lots(Circuit x, StringBuilder text) {
        int waiting = x.bin(-1);
        for (int index = 1; index < waiting; index++) {
            put(text, x.bin(index));
        }
        int count = x.total(1);
        for (int lot = 0; lot < count; lot++) {
            put(text, x.state(lot));
            put(text, x.passes(lot));
            for (int size = count > LOTS_IN_FULL ? 3 : 0; size < 4; size++) {
                put(text, x.mass(lot, count > LOTS_IN_FULL ? -1 : size));
            }
        }
    }

    private static void put(StringBuilder text, long answer) {
        text.append(' ').append(answer);
    }
}
