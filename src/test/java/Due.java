/** Compares answers with those that are due and ends the test with exit code 1 if one differs. */
final class Due {
    private final String test;
    private int promise;
    private int calls;
    private int wrong;

    Due(String test) {
        this.test = test;
    }

    void promise(int number) {
        promise = number;
    }

    void is(String what, long got, long want) {
        calls++;
        if (got != want) {
            wrong++;
            System.out.println(test + ", promise " + promise + ": " + what + " answered " + got
                    + ", due is " + want);
        }
    }

    void end() {
        System.out.println(test + ": " + calls + " answers, " + wrong + " not as due");
        if (wrong != 0 || calls == 0) {
            System.exit(1);
        }
    }
}
