/** Counts answers that are as due, and prints those that are not. */
public final class Due {
    static final int LOW = -1000000000;
    static final int BEYOND = LOW - 1;
    static final int NONE = LOW - 2;
    static final int STATE = LOW - 3;
    static final int FULL = LOW - 4;
    static final int KIND = LOW - 5;

    private int asDue = 0;
    private int wrong = 0;
    private String place = "";

    void at(String newPlace) {
        place = newPlace;
    }

    void is(long got, long want) {
        if (got == want) {
            asDue++;
        } else {
            wrong++;
            StackTraceElement from = new Throwable().getStackTrace()[1];
            System.out.println(place + " (line " + from.getLineNumber() + "): answered " + got + ", due is " + want);
        }
    }

    /** Ends the test: exit code 1 if an answer was wrong. */
    void end() {
        System.out.println(asDue + " answers as due, " + wrong + " wrong");
        if (wrong != 0 || asDue == 0) {
            System.exit(1);
        }
    }
}
