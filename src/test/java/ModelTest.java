import java.util.ArrayDeque;
import java.util.Arrays;

/** Long drawn runs of calls: the class answers what the plainer program of support/Model.java answers. */
public final class ModelTest {
    private static final int RUNS = 600;
    private static final int CALLS = 512;
    private static final int SHOWN = 5;

    public static void main(String[] args) {
        int wrong = 0;
        long answers = 0;
        long errors = 0;
        int[] good = new int[Calls.NAMES.length];
        for (int run = 0; run < RUNS && wrong < SHOWN; run++) {
            Draws draws = new Draws(run * 7919L + 1);
            AshLoans x = new AshLoans();
            Model model = new Model();
            ArrayDeque<long[]> planned = new ArrayDeque<>();
            for (int i = 0; i < CALLS; i++) {
                if (planned.isEmpty() && draws.oneIn(60)) {
                    plan(draws, model, planned);
                }
                int call;
                long[] a;
                if (planned.isEmpty()) {
                    call = draws.oneIn(4) ? preferred(draws) : draws.upTo(Calls.NAMES.length - 1);
                    a = arguments(draws, model, call);
                } else {
                    a = Arrays.copyOf(planned.peek(), 5);
                    call = (int) planned.poll()[5];
                }
                int want = model.call(Calls.NAMES[call], a);
                int got = Calls.call(x, call, a[0], (int) a[0], (int) a[1], (int) a[2], (int) a[3], (int) a[4]);
                answers++;
                if (want < -1000000000 && want >= -1000000005) {
                    errors++;
                } else {
                    good[call]++;
                }
                if (got != want) {
                    wrong++;
                    System.out.println("run " + run + ", call " + i + ": " + Calls.NAMES[call]
                        + Arrays.toString(a) + " answered " + got + ", due is " + want);
                    break;
                }
            }
        }
        for (int call = 0; call < good.length && wrong == 0; call++) {
            if (good[call] < 200) {
                wrong++;
                System.out.println(Calls.NAMES[call] + " was answered without an ERROR just " + good[call] + " times");
            }
        }
        System.out.println(answers + " answers compared (" + errors + " ERRORS), " + wrong + " wrong");
        if (wrong != 0) {
            System.exit(1);
        }
    }

    /** The acts that build a county come more often, that the others find one. */
    private static int preferred(Draws draws) {
        String[] names = {"ash", "potter", "store", "store", "lend", "lend", "lend", "days", "put", "text", "tell",
            "breaks", "lender"};
        return number(names[draws.upTo(names.length - 1)]);
    }

    private static int number(String name) {
        for (int i = 0; i < Calls.NAMES.length; i++) {
            if (Calls.NAMES[i].equals(name)) {
                return i;
            }
        }
        throw new IllegalArgumentException(name);
    }

    /** Calls that free draws hardly ever make in a row: a SHEET is filled with what is so, or nearly, and asked. */
    private static void plan(Draws draws, Model model, ArrayDeque<long[]> planned) {
        if (draws.oneIn(2)) {
            planBurnt(draws, model, planned);
        } else {
            planJudge(draws, model, planned);
        }
    }

    private static void planBurnt(Draws draws, Model model, ArrayDeque<long[]> planned) {
        if (model.now.ashes.isEmpty()) {
            return;
        }
        int ash = draws.upTo(model.now.ashes.size() - 1);
        int sheet = draws.upTo(3);
        int size = draws.oneIn(3) ? 10 : draws.upTo(11);
        planned.add(planned("sheet", sheet, 8 << draws.upTo(2), size));
        for (int heat = 0; heat < size && heat < 10; heat++) {
            int told = draws.oneIn(3) ? -1 : model.given(ash, heat);
            planned.add(planned("put", sheet, heat, draws.oneIn(40) ? draws.upTo(11) : told));
        }
        planned.add(planned("burnt", sheet));
    }

    private static void planJudge(Draws draws, Model model, ArrayDeque<long[]> planned) {
        int sheet = draws.upTo(3);
        int size = Math.max(0, model.now.loans.size() + (draws.oneIn(4) ? draws.between(-1, 1) : 0));
        planned.add(planned("sheet", sheet, 8 << draws.upTo(2), size));
        for (int loan = 0; loan < size && loan < model.now.loans.size(); loan++) {
            int bushels = model.now.loans.get(loan)[3];
            planned.add(planned("put", sheet, loan, draws.oneIn(20) ? draws.upTo(99) : bushels));
        }
        planned.add(planned("judge", sheet));
    }

    /** The arguments of a call, and behind them its number. */
    private static long[] planned(String name, long... some) {
        long[] a = Arrays.copyOf(some, 6);
        a[5] = number(name);
        return a;
    }

    private static long[] arguments(Draws draws, Model model, int call) {
        long[] a = new long[5];
        for (int i = 0; i < 5; i++) {
            a[i] = argument(draws, model, Calls.NAMES[call], i);
            if (draws.oneIn(40)) {
                a[i] = draws.anyNumber();
            }
        }
        if (Calls.NAMES[call].equals("store") && !model.now.loans.isEmpty() && draws.oneIn(2)) {
            int[] loan = model.now.loans.get(draws.upTo(model.now.loans.size() - 1));
            return new long[] {loan[1], loan[2], draws.upTo(loan[3] + 2), 0, 0};
        }
        if (Calls.NAMES[call].equals("feed")) {
            a[0] = draws.oneIn(6) ? draws.word() : piece(draws, (int) a[1]);
        } else {
            a[0] = (int) a[0];
        }
        return a;
    }

    /** Some bytes that TEXTS are made of, often so that they go on well. */
    private static long piece(Draws draws, int n) {
        String[] signs = {"mknhd", "0123456789", "+-*/%", "<=>", "&|", "!(", ")"};
        long word = 0;
        boolean wantsPart = draws.oneIn(2);
        for (int i = 0; i < 8; i++) {
            String from;
            if (draws.oneIn(12)) {
                from = signs[draws.upTo(6)];
            } else if (wantsPart) {
                from = draws.oneIn(5) ? signs[5] : signs[draws.oneIn(3) ? 1 : 0];
                wantsPart = from.equals(signs[5]);
            } else {
                from = draws.oneIn(5) ? signs[6] : signs[draws.between(2, 4)];
                wantsPart = !from.equals(signs[6]);
            }
            word |= (long) from.charAt(draws.upTo(from.length() - 1)) << 8 * i;
        }
        return word;
    }

    private static int argument(Draws draws, Model model, String name, int i) {
        int ashes = Math.max(0, model.now.ashes.size() - (draws.oneIn(20) ? 0 : 1));
        int potters = Math.max(0, model.now.potters.size() - (draws.oneIn(20) ? 0 : 1));
        int loans = Math.max(0, model.now.loans.size() - (draws.oneIn(10) ? 0 : 1));
        int ash = draws.upTo(ashes);
        int potter = draws.upTo(potters);
        int mix = mix(draws, ashes);
        int[] some;
        switch (name) {
            case "ash": some = new int[] {draws.upTo(69)}; break;
            case "ofAsh": some = new int[] {ash, draws.upTo(5)}; break;
            case "hedge": some = new int[] {ash, draws.upTo(1), draws.upTo(draws.oneIn(2) ? 9 : 4)}; break;
            case "become": some = new int[] {ash, draws.upTo(69)}; break;
            case "as": some = new int[] {ash, draws.upTo(7)}; break;
            case "ofPotter": some = new int[] {potter, draws.upTo(4)}; break;
            case "store": some = new int[] {potter, ash, draws.upTo(draws.oneIn(4) ? 999 : draws.oneIn(2) ? 3 : 90)}; break;
            case "stored": some = new int[] {potter, ash}; break;
            case "feed": some = new int[] {0, draws.between(draws.oneIn(9) ? 0 : 1, draws.oneIn(3) ? 9 : 3)}; break;
            case "text": some = new int[] {draws.upTo(draws.oneIn(9) ? 2 : 1)}; break;
            case "law": some = new int[] {draws.upTo(1), draws.upTo(99), draws.upTo(9), draws.upTo(20)}; break;
            case "lend": some = new int[] {potter, potter, ash, draws.between(1, draws.oneIn(3) ? 99 : 20),
                draws.between(1, draws.oneIn(3) ? 60 : 9)}; break;
            case "ofLoan": some = new int[] {draws.upTo(loans), draws.upTo(5)}; break;
            case "back": some = new int[] {draws.upTo(loans)}; break;
            case "fire": some = new int[] {potter, draws.oneIn(2) ? mix % 4 : mix, draws.upTo(9)}; break;
            case "days": some = new int[] {draws.between(1, draws.oneIn(9) ? 60 : 4)}; break;
            case "loose": some = new int[] {draws.between(1, draws.oneIn(9) ? 40 : 4)}; break;
            case "colour": some = new int[] {mix, draws.upTo(9)}; break;
            case "then": some = new int[] {draws.upTo(60), potter, draws.between(-1, ashes)}; break;
            case "breaks": some = new int[] {potter}; break;
            case "recipe": some = new int[] {potter, draws.upTo(9), draws.upTo(9)}; break;
            case "heats": some = new int[] {mix, draws.upTo(9)}; break;
            case "lender": some = new int[] {potter, ash, draws.between(1, 30), draws.between(1, 20)}; break;
            case "odds": some = new int[] {mix, draws.upTo(9), draws.upTo(1)}; break;
            case "seed": some = new int[] {draws.anyNumber()}; break;
            case "voice": some = new int[] {ash, draws.upTo(3), draws.anyNumber()}; break;
            case "trace": some = new int[] {draws.between(-1, 9)}; break;
            case "sheet": some = new int[] {draws.upTo(3), draws.upTo(4) * 8, draws.between(-1, draws.oneIn(3) ? 41 : 11)}; break;
            case "put": some = new int[] {draws.upTo(3), draws.upTo(draws.oneIn(3) ? 40 : 5), put(draws, model)}; break;
            case "move": some = new int[] {draws.upTo(3), draws.upTo(5), draws.upTo(3), draws.upTo(5), draws.upTo(5)}; break;
            case "burnt": case "hedges": case "judge": some = new int[] {draws.upTo(3)}; break;
            case "tell": some = new int[] {draws.oneIn(5) ? draws.upTo(10) : model.now.loans.size()}; break;
            case "count": some = new int[] {draws.upTo(10)}; break;
            case "told": some = new int[] {draws.between(0, 6)}; break;
            default: some = new int[] {}; break;
        }
        if (name.equals("lend") && i == 1) {
            return draws.upTo(potters);
        }
        return i < some.length ? some[i] : 0;
    }

    private static int mix(Draws draws, int ashes) {
        int mix = 0;
        for (int i = 0; i <= ashes && i < 5; i++) {
            mix = mix * 10 + (draws.oneIn(2) ? 0 : draws.upTo(draws.oneIn(4) ? 9 : 3));
        }
        return mix;
    }

    /** Numbers that HEDGES, COLOURS and LOANS may have, or that aren't any. */
    private static int put(Draws draws, Model model) {
        if (draws.oneIn(4)) {
            return draws.anyNumber();
        }
        if (draws.oneIn(2) && !model.now.loans.isEmpty()) {
            return model.now.loans.get(draws.upTo(model.now.loans.size() - 1))[3];
        }
        return draws.between(-3, 9);
    }
}
