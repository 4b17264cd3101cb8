import java.nio.charset.StandardCharsets;

/** Objects that tests begin with, and calls that tests make in a row. */
public final class Scenes {
    private Scenes() {
    }

    /** An object with so many POTTERS, and an ASH of each km. */
    static AshLoans with(int potters, int... kms) {
        AshLoans x = new AshLoans();
        for (int i = 0; i < potters; i++) {
            x.potter();
        }
        for (int km : kms) {
            x.ash(km);
        }
        return x;
    }

    static void feed(AshLoans x, String text) {
        byte[] bytes = text.getBytes(StandardCharsets.ISO_8859_1);
        for (byte one : bytes) {
            x.feed(one & 255, 1);
        }
    }

    static int text(AshLoans x, int use, String text) {
        feed(x, text);
        return x.text(use);
    }

    /** What a TEXT of BACK gives with 7, 3, 2 (held within 0 to 99), or the answer that is a FAULT. */
    static int back(String text) {
        AshLoans x = new AshLoans();
        int read = text(x, 1, text);
        return read == 1 ? x.law(1, 7, 3, 2) : read;
    }

    static void row(AshLoans x, int sheet, int bits, int... numbers) {
        x.sheet(sheet, bits, numbers.length);
        for (int i = 0; i < numbers.length; i++) {
            x.put(sheet, i, numbers[i]);
        }
    }

    /** A LOAN of BUSHELS that come there for it: the one who lends has none of them left. */
    static int lent(AshLoans x, int from, int to, int ash, int n, int d) {
        int had = x.stored(from, ash);
        x.store(from, ash, had + n);
        return x.lend(from, to, ash, n, d);
    }

    /** An object whose DAY is 60 times so many. */
    static AshLoans after(int sixties, AshLoans x) {
        for (int i = 0; i < sixties; i++) {
            x.days(60);
        }
        return x;
    }
}
