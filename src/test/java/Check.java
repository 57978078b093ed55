/** Counts and prints the answers of one test that are not the ones that are due. */
final class Check {
    private int wrong = 0;

    void due(String call, long want, long got) {
        if (got != want) {
            wrong++;
            System.out.println(call + " answered " + got + ", due is " + want);
        }
    }

    void holds(String what, boolean holds) {
        if (!holds) {
            wrong++;
            System.out.println("does not hold: " + what);
        }
    }

    /** A fraction by its two parts. */
    void fraction(String call, long numerator, long denominator, long gotNumerator, long gotDenominator) {
        due(call + " numerator", numerator, gotNumerator);
        due(call + " denominator", denominator, gotDenominator);
    }

    int wrong() {
        return wrong;
    }

    void end() {
        if (wrong != 0) {
            System.out.println(wrong + " answers are not as due");
            System.exit(1);
        }
    }
}
