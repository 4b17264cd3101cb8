import java.lang.management.ManagementFactory;

/** Calls with any arguments in any state: none throws, and none makes an object. */
public final class AnyCallTest {
    private static final int RUNS = 3000;
    private static final int CALLS = 512;

    public static void main(String[] args) {
        com.sun.management.ThreadMXBean room = (com.sun.management.ThreadMXBean) ManagementFactory.getThreadMXBean();
        long made = 0;
        int wrong = 0;
        for (int run = 0; run < RUNS && wrong < 5; run++) {
            Draws draws = new Draws(run * 104729L);
            AshLoans x = new AshLoans();
            long before = room.getCurrentThreadAllocatedBytes();
            try {
                run(x, draws);
            } catch (Throwable thrown) {
                wrong++;
                System.out.println("run " + run + " threw " + thrown);
                thrown.printStackTrace(System.out);
            }
            // the first runs hold what the machine itself makes while it warms up
            if (run >= 200) {
                made += room.getCurrentThreadAllocatedBytes() - before;
            }
        }
        long each = made / (RUNS - 200);
        System.out.println(RUNS + " runs of any calls, " + each + " bytes made in each, " + wrong + " threw");
        if (wrong != 0 || each > 2000) {
            System.exit(1);
        }
    }

    private static void run(AshLoans x, Draws draws) {
        for (int i = 0; i < CALLS; i++) {
            int call = draws.oneIn(5) ? 0 : draws.upTo(Calls.NAMES.length - 1);
            if (call == 0) {
                build(x, draws);
            } else {
                Calls.call(x, call, draws.word(), small(draws), small(draws), small(draws), small(draws), small(draws));
            }
        }
    }

    private static int small(Draws draws) {
        return draws.oneIn(4) ? draws.anyNumber() : draws.upTo(draws.oneIn(2) ? 4 : 60);
    }

    private static void build(AshLoans x, Draws draws) {
        switch (draws.upTo(5)) {
            case 0: x.ash(draws.upTo(69)); break;
            case 1: x.potter(); break;
            case 2: x.store(draws.upTo(3), draws.upTo(4), draws.upTo(999)); break;
            case 3: x.lend(draws.upTo(3), draws.upTo(3), draws.upTo(4), draws.upTo(99), draws.upTo(20)); break;
            case 4: x.feed("m+1*(k<h)".charAt(draws.upTo(8)), 1); break;
            default: x.sheet(draws.upTo(3), draws.upTo(4) * 8, draws.upTo(40)); break;
        }
    }
}
