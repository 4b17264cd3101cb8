/**
 * The place of a FAULT is compared with its definition (the longest beginning that some end makes a TEXT), and what
 * a TEXT gives with a reader that works it out as it goes: for all short tapes, and for many drawn long ones.
 */
public final class FaultsTest {
    private static final String SIGNS = "mn1+*<&|!()x";
    private static final String LONG_SIGNS = "mkhnd0123456789+-*/%<=>&|!()";
    private static int compared = 0;
    private static int texts = 0;
    private static int wrong = 0;
    private static AshLoans x = new AshLoans();
    private static int calls = 0;

    public static void main(String[] args) {
        allUpTo(4, "");
        for (String more : new String[] {"((((", "!!!!", "(!(!", "1+(((", "m<!!!"}) {
            allUpTo(3, more);
        }
        drawn(new Draws(5), 60000);
        System.out.println(compared + " tapes compared (" + texts + " TEXTS), " + wrong + " wrong");
        if (wrong != 0 || texts < 5000) {
            System.exit(1);
        }
    }

    private static void allUpTo(int length, String tape) {
        compare(tape, 0);
        compare(tape, 1);
        for (int i = 0; i < SIGNS.length() && length > 0; i++) {
            allUpTo(length - 1, tape + SIGNS.charAt(i));
        }
    }

    /** TEXTS that are made by the grammar, then often spoilt in one place, or cut. */
    private static void drawn(Draws draws, int many) {
        for (int i = 0; i < many; i++) {
            int use = draws.upTo(1);
            StringBuilder made = new StringBuilder();
            level(draws, made, use, 0, 0);
            if (draws.oneIn(3)) {
                made.setCharAt(draws.upTo(made.length() - 1), LONG_SIGNS.charAt(draws.upTo(LONG_SIGNS.length() - 1)));
            }
            if (draws.oneIn(6)) {
                made.insert(draws.upTo(made.length()), (char) draws.upTo(255));
            }
            if (made.length() > 50 || draws.oneIn(6)) {
                made.setLength(draws.upTo(Math.min(50, made.length())));
            }
            compare(made.toString(), use);
        }
    }

    private static void level(Draws draws, StringBuilder made, int use, int level, int open) {
        String[] signs = {"|", "&", "<=>", "+-", "*/%"};
        if (level == 5) {
            part(draws, made, use, open);
            return;
        }
        level(draws, made, use, level + 1, open);
        for (int i = 0; i < 2 && draws.oneIn(6) && !(level == 2 && i > 0); i++) {
            made.append(signs[level].charAt(draws.upTo(signs[level].length() - 1)));
            level(draws, made, use, level + 1, open);
        }
    }

    private static void part(Draws draws, StringBuilder made, int use, int open) {
        int kind = draws.upTo(open > 5 ? 3 : 6);
        if (kind < 2) {
            made.append((use == 0 ? "mkh" : "nmd").charAt(draws.upTo(2)));
        } else if (kind < 4) {
            made.append(draws.upTo(draws.oneIn(3) ? 12000 : 9));
        } else if (kind == 4) {
            made.append('!');
            part(draws, made, use, open + 1);
        } else {
            made.append('(');
            level(draws, made, use, 0, open + 1);
            made.append(')');
        }
    }

    private static void compare(String tape, int use) {
        if (calls > 400) {
            x = new AshLoans();
            calls = 0;
        }
        for (int i = 0; i < tape.length(); i++) {
            x.feed(tape.charAt(i), 1);
        }
        calls += tape.length() + 5;
        int got = x.text(use);
        compared++;
        boolean is = Model.TextOf.isText(tape, use);
        same(tape, "text", got, is ? 1 : -10 - Model.TextOf.fault(tape, use));
        if (is) {
            texts++;
            int[][] values = {{3, 5, 0}, {-7, 2, 9}, {Integer.MIN_VALUE, -1, 50}};
            for (int[] v : values) {
                int due = new Model.TextOf(tape, use, v[0], v[1], v[2]).whole();
                same(tape, "law", x.law(use, v[0], v[1], v[2]), Math.min(99, Math.max(0, due)));
            }
        }
    }

    private static void same(String tape, String call, int got, int want) {
        if (got != want) {
            wrong++;
            if (wrong < 20) {
                System.out.println(call + " of '" + tape + "' answered " + got + ", due is " + want);
            }
        }
    }
}
