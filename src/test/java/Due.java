/** Counts the answers that are not the ones that are due, and prints them. */
final class Due {
    private int checked = 0;
    private int wrong = 0;
    private String part = "";

    /** Names what the answers that follow belong to. */
    void part(String name) {
        part = name;
    }

    void is(String call, long got, long want) {
        checked++;
        if (got != want) {
            wrong++;
            System.out.println(part + ": " + call + " answered " + got + ", due is " + want);
        }
    }

    void isTrue(String claim, boolean holds) {
        is(claim, holds ? 1 : 0, 1);
    }

    /** Ends the test: exit code 1 if an answer was wrong or none was looked at. */
    void end() {
        System.out.println(checked + " answers looked at, " + wrong + " wrong");
        if (wrong != 0 || checked == 0) {
            System.exit(1);
        }
    }
}
