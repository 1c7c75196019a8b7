/** Compares answers with those that are due, and ends the run with code 1 if one is not as due. */
final class Check {
    private final String promise;
    private static int wrong = 0;

    Check(String promise) {
        this.promise = promise;
    }

    void due(String call, long got, long want) {
        if (got != want) {
            tell(call + " answered " + got + ", due is " + want);
        }
    }

    void dueFloat(String call, float got, float want) {
        if (Float.floatToIntBits(got) != Float.floatToIntBits(want)) {
            tell(call + " answered " + got + ", due is " + want);
        }
    }

    void dueText(String what, String got, String want) {
        if (!got.equals(want)) {
            tell(what + " is " + got + ", due is " + want);
        }
    }

    private void tell(String fault) {
        wrong++;
        System.out.println(promise + ": " + fault);
    }

    static void end() {
        if (wrong > 0) {
            System.out.println(wrong + " answers are not as due");
            System.exit(1);
        }
    }
}
