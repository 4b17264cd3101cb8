/** For each promise: ordinary calls, the edges that the document names, and wrong calls. */
public final class PromisesTest {
    private static final int BEYOND = Due.BEYOND;
    private static final int NONE = Due.NONE;
    private static final int STATE = Due.STATE;
    private static final int FULL = Due.FULL;
    private static final int KIND = Due.KIND;
    private static final int MIN = Integer.MIN_VALUE;
    private static final int MAX = Integer.MAX_VALUE;
    private static final Due due = new Due();

    public static void main(String[] args) {
        ashes();
        potters();
        texts();
        loans();
        passing();
        wouldBe();
        thinking();
        voices();
        sheets();
        images();
        telling();
        due.end();
    }

    // ---- promises 1 to 6

    private static void ashes() {
        due.at("promise 1");
        AshLoans x = new AshLoans();
        for (int what = 0; what <= 8; what++) {
            due.is(x.count(what), 0);
        }
        due.is(x.count(9), 1);
        due.is(x.ofAsh(0, 0), BEYOND);
        due.is(x.ofPotter(0, 0), BEYOND);
        due.is(x.ofLoan(0, 0), BEYOND);
        due.is(x.put(0, 0, 0), NONE);
        due.is(x.restore(), NONE);
        due.is(x.law(0, 4, 6, 5), 9);
        due.is(x.law(1, 9, 6, 5), 7);
        due.is(x.told(1), 3);
        due.is(x.told(2), 2);
        due.is(x.told(3), 0);
        due.is(x.told(4), 0);
        due.is(x.told(5), 0);

        due.at("promise 2");
        x = new AshLoans();
        due.is(x.ash(-1), BEYOND);
        due.is(x.ash(70), BEYOND);
        due.is(x.ash(MIN), BEYOND);
        due.is(x.ash(0), 0);
        due.is(x.ash(69), 1);
        due.is(x.ash(17), 2);
        due.is(x.ash(17), 3);
        due.is(x.ash(50), 4);
        due.is(x.ash(50), FULL);
        due.is(x.ash(70), BEYOND);
        due.is(x.count(0), 5);

        due.at("promise 3");
        due.is(x.ofAsh(1, 0), 6);
        due.is(x.ofAsh(1, 1), 9);
        due.is(x.ofAsh(1, 2), 0);
        due.is(x.ofAsh(1, 3), 0);
        due.is(x.ofAsh(1, 4), 0);
        due.is(x.ofAsh(1, 5), BEYOND);
        due.is(x.ofAsh(1, -1), BEYOND);
        due.is(x.ofAsh(5, 0), BEYOND);
        due.is(x.ofAsh(-1, 0), BEYOND);
        x.potter();
        x.potter();
        x.store(0, 1, 700);
        x.store(1, 1, 600);
        x.store(1, 2, 9);
        due.is(x.ofAsh(1, 4), 1300);

        due.at("promise 4");
        due.is(x.hedge(1, 0, 9), 0);
        due.is(x.hedge(1, 0, 4), 9);
        due.is(x.hedge(1, 1, 3), 0);
        due.is(x.hedge(1, 1, 2), 3);
        due.is(x.ofAsh(1, 2), 4);
        due.is(x.ofAsh(1, 3), 2);
        due.is(x.ofAsh(0, 2), 0);
        due.is(x.hedge(1, 0, 10), BEYOND);
        due.is(x.hedge(1, 0, -1), BEYOND);
        due.is(x.hedge(1, 1, 4), BEYOND);
        due.is(x.hedge(1, 1, -1), BEYOND);
        due.is(x.hedge(1, 2, 0), BEYOND);
        due.is(x.hedge(1, -1, 0), BEYOND);
        due.is(x.hedge(5, 0, 0), BEYOND);
        due.is(x.hedge(-1, 0, 0), BEYOND);
        due.is(x.ofAsh(1, 2), 4);
        due.is(x.ofAsh(1, 3), 2);

        due.at("promise 5");
        due.is(x.become(1, 35), 6);
        due.is(x.become(1, 0), 3);
        due.is(x.become(1, 48), 0);
        due.is(x.ofAsh(1, 0), 4);
        due.is(x.ofAsh(1, 1), 8);
        due.is(x.ofAsh(1, 2), 4);
        due.is(x.ofAsh(1, 4), 1300);
        due.is(x.become(1, 70), BEYOND);
        due.is(x.become(1, -1), BEYOND);
        due.is(x.become(5, 0), BEYOND);
        due.is(x.become(-1, 0), BEYOND);
        due.is(x.ofAsh(1, 0), 4);

        due.at("promise 6");
        int[] above = {0, 1, 1, 1, 1 | 2, 1 | 4, 1 | 8};
        for (int kind = 0; kind < 7; kind++) {
            x.become(0, kind * 10 + 3);
            for (int other = 0; other < 7; other++) {
                boolean under = kind == other || (above[kind] >> other & 1) == 1;
                due.is(x.as(0, other), under ? 3 : KIND);
            }
        }
        due.is(x.as(0, 7), BEYOND);
        due.is(x.as(0, -1), BEYOND);
        due.is(x.as(5, 0), BEYOND);
        due.is(x.as(-1, 0), BEYOND);
    }

    // ---- promises 7 to 10

    private static void potters() {
        due.at("promise 7");
        AshLoans x = new AshLoans();
        for (int i = 0; i < 4; i++) {
            due.is(x.potter(), i);
        }
        due.is(x.potter(), FULL);
        due.is(x.count(1), 4);

        due.at("promise 8");
        x = Scenes.with(3, 5, 6);
        due.is(x.ofPotter(0, 0), 0);
        due.is(x.ofPotter(0, 1), 0);
        due.is(x.ofPotter(0, 2), 0);
        due.is(x.ofPotter(0, 3), 0);
        x.store(0, 0, 100);
        x.store(1, 1, 100);
        x.lend(0, 1, 0, 10, 3);
        x.lend(0, 2, 0, 20, 3);
        x.lend(1, 2, 1, 40, 2);
        due.is(x.ofPotter(0, 2), 0);
        due.is(x.ofPotter(1, 2), 1);
        due.is(x.ofPotter(2, 2), 2);
        due.is(x.ofPotter(0, 3), 30);
        due.is(x.ofPotter(1, 3), 40);
        due.is(x.ofPotter(2, 3), 0);
        x.fire(0, 1, 0);
        x.store(2, 1, 39);
        x.days(2);
        due.is(x.ofPotter(0, 0), 1);
        due.is(x.ofPotter(2, 1), 1);
        due.is(x.ofPotter(1, 1), 0);
        due.is(x.ofPotter(1, 3), 0);
        due.is(x.ofPotter(0, 4), BEYOND);
        due.is(x.ofPotter(0, -1), BEYOND);
        due.is(x.ofPotter(3, 0), BEYOND);
        due.is(x.ofPotter(-1, 0), BEYOND);

        due.at("promise 9");
        x = Scenes.with(2, 5, 6);
        due.is(x.store(1, 1, 999), 0);
        due.is(x.store(1, 1, 7), 999);
        due.is(x.store(1, 1, 0), 7);
        due.is(x.store(1, 1, 1000), BEYOND);
        due.is(x.store(1, 1, -1), BEYOND);
        due.is(x.store(2, 0, 1), BEYOND);
        due.is(x.store(-1, 0, 1), BEYOND);
        due.is(x.store(0, 2, 1), BEYOND);
        due.is(x.store(0, -1, 1), BEYOND);

        due.at("promise 10");
        x.store(1, 1, 8);
        x.store(1, 0, 5);
        due.is(x.stored(1, 1), 8);
        due.is(x.stored(1, 0), 5);
        due.is(x.stored(0, 1), 0);
        due.is(x.stored(2, 0), BEYOND);
        due.is(x.stored(-1, 0), BEYOND);
        due.is(x.stored(0, 2), BEYOND);
        due.is(x.stored(0, -1), BEYOND);
    }

    // ---- promises 11 to 13

    private static void texts() {
        due.at("promise 11");
        AshLoans x = new AshLoans();
        due.is(x.feed(0, 0), BEYOND);
        due.is(x.feed(0, 9), BEYOND);
        due.is(x.feed(0, MIN), BEYOND);
        due.is(x.feed(0x6B2B6DL, 3), 3);
        due.is(x.text(0), 1);
        due.is(x.law(0, 5, 9, 70), 14);
        due.is(x.feed(0x2B312B312B312B31L, 8), 8);
        due.is(x.feed(0x2B312B312B312B31L, 8), 16);
        due.is(x.feed(0x2B312B312B312B31L, 8), 24);
        due.is(x.feed(0x2B312B312B312B31L, 8), 32);
        due.is(x.feed(0x2B312B312B312B31L, 8), 40);
        due.is(x.feed(0x2B312B312B312B31L, 8), 48);
        due.is(x.feed(0x2B312B312B312B31L, 3), FULL);
        due.is(x.feed(0x2B312B312B312B31L, 9), BEYOND);
        due.is(x.count(6), 48);
        due.is(x.feed(0xFFFFFFFFFFFF3031L, 2), 50);
        due.is(x.feed(0, 1), FULL);
        due.is(x.text(1), 1);
        due.is(x.law(1, 0, 0, 0), 34);

        due.at("promise 12");
        x = new AshLoans();
        due.is(Scenes.text(x, 1, "n*m+d"), 1);
        due.is(x.law(1, 7, 3, 2), 23);
        Scenes.feed(x, "mk");
        due.is(x.text(2), BEYOND);
        due.is(x.text(-1), BEYOND);
        due.is(x.count(6), 2);
        due.is(x.text(1), -11);
        due.is(x.count(6), 0);
        due.is(x.law(1, 7, 3, 2), 23);
        due.is(x.told(1), 2);
        due.is(x.text(1), -10);
        due.is(Scenes.text(x, 0, "n"), -10);
        due.is(Scenes.text(x, 0, "d"), -10);
        due.is(Scenes.text(x, 1, "k"), -10);
        due.is(Scenes.text(x, 1, "h"), -10);
        due.is(Scenes.text(x, 0, "m+k*h"), 1);
        due.is(Scenes.text(x, 1, "d"), 1);
        due.is(x.law(0, 7, 3, 2), 13);
        due.is(x.law(1, 7, 3, 2), 2);
        grammar();
        faults();

        due.at("promise 13");
        x = new AshLoans();
        due.is(x.law(-1, 0, 0, 0), BEYOND);
        due.is(x.law(2, 0, 0, 0), BEYOND);
        due.is(x.law(0, 3, 50, 4), 7);
        due.is(x.law(0, -3, 50, 2), 0);
        due.is(x.law(0, 90, 0, 40), 99);
        due.is(x.law(1, 99, 8, 8), 75);
        due.is(x.law(1, 3, 8, 8), 3);
        due.is(x.law(1, -8, 8, 8), 0);
        Scenes.text(x, 0, "k");
        Scenes.text(x, 1, "m");
        due.is(x.law(0, 3, 50, 4), 50);
        due.is(x.law(1, 3, 51, 4), 51);
        due.is(x.law(0, 3, 100, 4), 99);
        due.is(x.law(0, 3, MIN, 4), 0);
        Scenes.text(x, 0, "m*m/h");
        due.is(x.law(0, 65536, 0, 1), 0);
        due.is(x.law(0, 46341, 0, -100000000), 21);
        Scenes.text(x, 0, "m/k+99");
        due.is(x.law(0, MIN, -1, 0), 0);
        Scenes.text(x, 0, "m%k+1");
        due.is(x.law(0, MIN, -1, 0), 1);
        Scenes.text(x, 0, "m+k");
        due.is(x.law(0, MAX, 1, 0), 0);
        due.is(x.law(0, MIN, MIN, 0), 0);
        due.is(x.law(0, MAX, MIN, 0), 0);
        due.is(x.law(0, MIN, -1, 0), 99);
    }

    /** With n 7, m 3, d 2. */
    private static void grammar() {
        due.is(Scenes.back("n"), 7);
        due.is(Scenes.back("0"), 0);
        due.is(Scenes.back("0042"), 42);
        due.is(Scenes.back("9999"), 99);
        due.is(Scenes.back("1+2*3"), 7);
        due.is(Scenes.back("(1+2)*3"), 9);
        due.is(Scenes.back("20-5-4"), 11);
        due.is(Scenes.back("20-(5-4)"), 19);
        due.is(Scenes.back("90/4/3"), 7);
        due.is(Scenes.back("90%50%7"), 5);
        due.is(Scenes.back("2*9/4%3"), 1);
        due.is(Scenes.back("9/4*2"), 4);
        due.is(Scenes.back("5/0"), 0);
        due.is(Scenes.back("5%0"), 0);
        due.is(Scenes.back("9+7/0"), 9);
        due.is(Scenes.back("(0-7)/2+9"), 6);
        due.is(Scenes.back("(0-7)%2+9"), 8);
        due.is(Scenes.back("7%(0-4)"), 3);
        due.is(Scenes.back("n<m"), 0);
        due.is(Scenes.back("m<n"), 1);
        due.is(Scenes.back("m<m"), 0);
        due.is(Scenes.back("n>m"), 1);
        due.is(Scenes.back("m>n"), 0);
        due.is(Scenes.back("m>m"), 0);
        due.is(Scenes.back("n=7"), 1);
        due.is(Scenes.back("n=8"), 0);
        due.is(Scenes.back("1+1=2"), 1);
        due.is(Scenes.back("2=1+1"), 1);
        due.is(Scenes.back("3|4"), 1);
        due.is(Scenes.back("0|4"), 1);
        due.is(Scenes.back("0|0"), 0);
        due.is(Scenes.back("3&4"), 1);
        due.is(Scenes.back("0&4"), 0);
        due.is(Scenes.back("4&0"), 0);
        due.is(Scenes.back("1|1&0"), 1);
        due.is(Scenes.back("(1|1)&0"), 0);
        due.is(Scenes.back("0&0|1"), 1);
        due.is(Scenes.back("0&(0|1)"), 0);
        due.is(Scenes.back("1|0|0|0"), 1);
        due.is(Scenes.back("1&2&3&4"), 1);
        due.is(Scenes.back("1<2&3>2"), 1);
        due.is(Scenes.back("(1<2)+(3>2)+(4=4)"), 3);
        due.is(Scenes.back("!0"), 1);
        due.is(Scenes.back("!5"), 0);
        due.is(Scenes.back("!!5"), 1);
        due.is(Scenes.back("!5+3"), 3);
        due.is(Scenes.back("!0*9"), 9);
        due.is(Scenes.back("!(1-1)"), 1);
        due.is(Scenes.back("5*!0+1"), 6);
        due.is(Scenes.back("0-5"), 0);
        due.is(Scenes.back("(((((n)))))"), 7);
        due.is(Scenes.back("!!!!!n"), 0);
        due.is(Scenes.back("!(!(!n))"), 0);
        due.is(Scenes.back("!n+!n+!n+!n+!n+!n+8"), 8);
        due.is(Scenes.back("(n)+(n)+(n)+(n)+(n)+(n)"), 42);
        due.is(Scenes.back("((((n))))+((((m))))"), 10);
    }

    private static void faults() {
        due.is(Scenes.back(""), -10);
        due.is(Scenes.back("x"), -10);
        due.is(Scenes.back(" n"), -10);
        due.is(Scenes.back("n "), -11);
        due.is(Scenes.back("n+"), -12);
        due.is(Scenes.back("n+*"), -12);
        due.is(Scenes.back("nn"), -11);
        due.is(Scenes.back("1n"), -11);
        due.is(Scenes.back("n1"), -11);
        due.is(Scenes.back("12345"), -14);
        due.is(Scenes.back("00000"), -14);
        due.is(Scenes.back("m+12345"), -16);
        due.is(Scenes.back("1<2<3"), -13);
        due.is(Scenes.back("1=2>3"), -13);
        due.is(Scenes.back("1<2+3=4"), -15);
        due.is(Scenes.back("(1<2)<3"), 1);
        due.is(Scenes.back("(1<2<3)"), -14);
        due.is(Scenes.back("1<2|1<2|1<2"), 1);
        due.is(Scenes.back("-1"), -10);
        due.is(Scenes.back("1+-1"), -12);
        due.is(Scenes.back("()"), -11);
        due.is(Scenes.back(")"), -10);
        due.is(Scenes.back("n)"), -11);
        due.is(Scenes.back("(n"), -12);
        due.is(Scenes.back("(n+"), -13);
        due.is(Scenes.back("(n))"), -13);
        due.is(Scenes.back("("), -11);
        due.is(Scenes.back("!"), -11);
        due.is(Scenes.back("n!"), -11);
        due.is(Scenes.back("n(m)"), -11);
        due.is(Scenes.back("!+n"), -11);
        due.is(Scenes.back("!!!!!!n"), -15);
        due.is(Scenes.back("((((((n))))))"), -15);
        due.is(Scenes.back("!!!!!(n)"), -15);
        due.is(Scenes.back("(((((!n)))))"), -15);
        due.is(Scenes.back("!(!(!(n)))"), -15);
        due.is(Scenes.back("!(n)+!(!(!n+!n))"), 0);
        due.is(Scenes.back("((((("), -15);
        due.is(Scenes.back("(((((n))))"), -20);
        due.is(Scenes.back("1&&2"), -12);
        due.is(Scenes.back("1||2"), -12);
        due.is(Scenes.back("1==2"), -12);
        due.is(Scenes.back("N"), -10);
        due.is(Scenes.back("\u00ee"), -10);
        due.is(Scenes.back("n\u0000"), -11);
        due.is(Scenes.back("1+1+1+1+1+1+1+1+1+1+1+1+1+1+1+1+1+1+1+1+1+1+1+1+1+"), -60);
        due.is(Scenes.back("1+1+1+1+1+1+1+1+1+1+1+1+1+1+1+1+1+1+1+1+1+1+1+1+1)"), -59);
    }

    // ---- promises 14 to 17

    private static void loans() {
        due.at("promise 14");
        AshLoans x = Scenes.with(3, 5, 6);
        x.store(0, 0, 100);
        x.store(1, 0, 950);
        due.is(x.lend(0, 1, 0, 0, 5), BEYOND);
        due.is(x.lend(0, 1, 0, 100, 5), BEYOND);
        due.is(x.lend(0, 1, 0, 5, 0), BEYOND);
        due.is(x.lend(0, 1, 0, 5, 61), BEYOND);
        due.is(x.lend(0, 0, 0, 5, 5), BEYOND);
        due.is(x.lend(0, 3, 0, 5, 5), BEYOND);
        due.is(x.lend(3, 0, 0, 5, 5), BEYOND);
        due.is(x.lend(0, -1, 0, 5, 5), BEYOND);
        due.is(x.lend(-1, 0, 0, 5, 5), BEYOND);
        due.is(x.lend(0, 1, 2, 5, 5), BEYOND);
        due.is(x.lend(0, 1, -1, 5, 5), BEYOND);
        due.is(x.lend(0, 1, 0, 50, 5), STATE);
        due.is(x.lend(0, 1, 1, 1, 5), STATE);
        due.is(x.lend(0, 1, 0, 49, 60), 0);
        due.is(x.stored(0, 0), 51);
        due.is(x.stored(1, 0), 999);
        due.is(x.lend(0, 2, 0, 52, 1), STATE);
        due.is(x.lend(0, 2, 0, 51, 1), 1);
        due.is(x.stored(0, 0), 0);
        for (int i = 2; i < 10; i++) {
            due.is(x.lend(1, 0, 0, 99, 7), i);
        }
        due.is(x.count(2), 10);
        due.is(x.lend(1, 0, 0, 99, 7), FULL);
        due.is(x.lend(1, 0, 1, 99, 7), STATE);
        due.is(x.lend(1, 1, 1, 99, 7), BEYOND);
        due.is(x.stored(1, 0), 207);

        due.at("promise 15");
        x.days(1);
        due.is(x.ofLoan(0, 0), 0);
        due.is(x.ofLoan(0, 1), 1);
        due.is(x.ofLoan(0, 2), 0);
        due.is(x.ofLoan(0, 3), 49);
        due.is(x.ofLoan(0, 4), 60);
        due.is(x.ofLoan(1, 0), 1);
        due.is(x.ofLoan(1, 4), 7);
        due.is(x.ofLoan(0, 5), BEYOND);
        due.is(x.ofLoan(0, -1), BEYOND);
        due.is(x.ofLoan(9, 0), BEYOND);
        due.is(x.ofLoan(-1, 0), BEYOND);
        x.store(2, 1, 3);
        x.lend(2, 1, 1, 2, 60);
        due.is(x.ofLoan(9, 0), 2);
        due.is(x.ofLoan(9, 1), 1);
        due.is(x.ofLoan(9, 2), 1);
        due.is(x.ofLoan(9, 3), 2);
        due.is(x.ofLoan(9, 4), 61);

        due.at("promise 16");
        x = Scenes.with(2, 5, 6);
        x.store(0, 0, 100);
        x.store(0, 1, 999);
        x.lend(0, 1, 0, 10, 5);
        x.lend(0, 1, 1, 40, 6);
        x.lend(0, 1, 0, 20, 7);
        due.is(x.back(3), BEYOND);
        due.is(x.back(-1), BEYOND);
        x.store(1, 0, 9);
        due.is(x.back(0), STATE);
        due.is(x.count(2), 3);
        x.store(1, 0, 25);
        due.is(x.back(0), 8);
        due.is(x.stored(1, 0), 15);
        due.is(x.stored(0, 0), 78);
        due.is(x.ofLoan(0, 3), 40);
        due.is(x.ofLoan(1, 3), 20);
        due.is(x.back(2), BEYOND);
        x.days(4);
        Scenes.text(x, 1, "n+m*d");
        due.is(x.back(0), 64);
        due.is(x.stored(1, 1), 0);
        due.is(x.stored(0, 1), 999);
        Scenes.text(x, 1, "n*n");
        due.is(x.back(0), STATE);
        x.store(1, 0, 20);
        due.is(x.back(0), 99);
        due.is(x.stored(0, 0), 177);
        due.is(x.count(2), 0);

        due.at("promise 17");
        x = Scenes.with(2, 4, 45, 60, 13);
        x.store(0, 0, 9);
        x.store(0, 1, 3);
        x.store(0, 2, 3);
        due.is(x.fire(2, 1, 0), BEYOND);
        due.is(x.fire(-1, 1, 0), BEYOND);
        due.is(x.fire(0, -1, 0), BEYOND);
        due.is(x.fire(0, 10000, 0), BEYOND);
        due.is(x.fire(0, 1, 10), BEYOND);
        due.is(x.fire(0, 1, -1), BEYOND);
        due.is(x.fire(0, 0, 10), BEYOND);
        due.is(x.fire(0, 0, 0), NONE);
        due.is(x.fire(1, 1, 0), STATE);
        due.is(x.fire(0, 40, 8), STATE);
        due.is(x.fire(0, 1000, 0), STATE);
        due.is(x.fire(0, 400, 0), STATE);
        due.is(x.fire(0, 1011, 0), STATE);
        due.is(x.fire(0, 410, 8), STATE);
        due.is(x.fire(0, 10, 8), KIND);
        due.is(x.fire(0, 100, 0), KIND);
        due.is(x.count(4), 0);
        due.is(x.fire(0, 23, 7), 3 * 11 + 2 * (12 + 1 + 7) - 70);
        due.is(x.stored(0, 0), 6);
        due.is(x.stored(0, 1), 1);
        due.is(x.stored(0, 2), 3);
        due.is(x.ofPotter(0, 0), 1);
        x.become(2, 63);
        x.store(0, 3, 5);
        due.is(x.fire(0, 4210, 0), (5 + 1 + 2 * (9 - 3) + 4 * (3 + 1)) % 10);
        due.is(x.stored(0, 1), 0);
        due.is(x.stored(0, 2), 1);
        due.is(x.stored(0, 3), 1);
        due.is(x.stored(0, 0), 6);
        due.is(x.fire(0, 6, 0), 4);
        due.is(x.stored(0, 0), 0);
        due.is(x.fire(0, 1, 0), STATE);
        due.is(x.count(4), 3);
    }

    // ---- promises 18, 19 and 29

    private static void passing() {
        due.at("promise 18");
        AshLoans x = Scenes.with(3, 5, 6, 7);
        due.is(x.days(0), BEYOND);
        due.is(x.days(61), BEYOND);
        due.is(x.days(-5), BEYOND);
        x.store(0, 0, 100);
        x.lend(0, 1, 0, 10, 2);
        x.lend(0, 1, 0, 20, 3);
        x.lend(0, 2, 0, 30, 2);
        x.store(1, 0, 19);
        x.store(2, 0, 29);
        due.is(x.days(1), 3);
        due.is(x.count(3), 1);
        due.is(x.days(1), 1);
        due.is(x.stored(1, 0), 9);
        due.is(x.stored(2, 0), 29);
        due.is(x.stored(0, 0), 48);
        due.is(x.ofPotter(2, 1), 1);
        due.is(x.ofLoan(0, 3), 20);
        due.is(x.ofLoan(0, 4), 3);
        due.is(x.days(60), 0);
        due.is(x.count(3), 62);
        due.is(x.ofPotter(1, 1), 1);
        due.is(x.stored(1, 0), 9);
        hedgesGrow();
        dayByDay();

        due.at("promise 19");
        x = new AshLoans();
        due.is(x.loose(0), BEYOND);
        due.is(x.loose(41), BEYOND);
        due.is(x.loose(40), 0);
        due.is(x.count(9), 1);
        due.is(x.count(3), 40);
        x = Scenes.with(1, 5, 6, 7);
        int z = 1;
        int[] grown = new int[3];
        int[] hedges = new int[3];
        for (int i = 0; i < 7; i++) {
            z = z * 1103515245 + 12345;
            int ash = (z >>> 8) % 3;
            z = z * 1103515245 + 12345;
            hedges[ash] = (z >>> 8) % 10;
            for (int a = 0; a < 3; a++) {
                grown[a] += hedges[a];
            }
        }
        due.is(x.loose(7), 0);
        due.is(x.count(9), z);
        for (int a = 0; a < 3; a++) {
            due.is(x.ofAsh(a, 2), hedges[a]);
            due.is(x.stored(0, a), grown[a]);
        }
        x = Scenes.with(2, 5);
        x.store(0, 0, 10);
        x.lend(0, 1, 0, 3, 2);
        x.lend(0, 1, 0, 3, 9);
        due.is(x.loose(2), 1);

        due.at("promise 29");
        x = Scenes.with(1, 5);
        due.is(x.seed(-77), 1);
        due.is(x.seed(0), -77);
        due.is(x.seed(-1000000001), 0);
        due.is(x.seed(5), -1000000001);
        due.is(x.told(1), 0);
        x.loose(1);
        due.is(x.count(9), (5 * 1103515245 + 12345) * 1103515245 + 12345);
        lastDay();
    }

    private static void hedgesGrow() {
        AshLoans x = Scenes.with(2, 5, 6, 7);
        x.hedge(0, 0, 9);
        x.hedge(1, 0, 4);
        x.hedge(1, 1, 1);
        x.hedge(2, 0, 5);
        x.hedge(2, 1, 3);
        x.store(0, 0, 985);
        x.days(1);
        due.is(x.stored(0, 0), 994);
        due.is(x.stored(1, 1), 4);
        due.is(x.stored(0, 1), 0);
        due.is(x.ofAsh(2, 4), 0);
        x.days(1);
        due.is(x.stored(0, 0), 999);
        x.potter();
        x.potter();
        x.days(2);
        due.is(x.stored(3, 2), 10);
        due.is(x.stored(1, 1), 16);
    }

    /** HEDGES come ahead of LOANS, LOANS by numbers, and what one gives back helps the next. */
    private static void dayByDay() {
        AshLoans x = Scenes.with(3, 5);
        x.store(0, 0, 10);
        x.lend(0, 1, 0, 10, 1);
        x.store(1, 0, 9);
        x.hedge(0, 0, 1);
        x.hedge(0, 1, 1);
        x.days(1);
        due.is(x.ofPotter(1, 1), 0);
        due.is(x.stored(0, 0), 8);
        due.is(x.stored(1, 0), 0);

        x = Scenes.with(3, 5);
        x.store(0, 0, 20);
        x.store(1, 0, 20);
        x.lend(0, 1, 0, 20, 1);
        x.lend(1, 2, 0, 20, 1);
        x.store(1, 0, 0);
        x.days(1);
        due.is(x.ofPotter(1, 1), 1);
        due.is(x.stored(1, 0), 15);

        x = Scenes.with(3, 5);
        x.store(0, 0, 20);
        x.store(1, 0, 20);
        x.lend(1, 2, 0, 20, 1);
        x.lend(0, 1, 0, 15, 1);
        x.store(1, 0, 0);
        x.days(1);
        due.is(x.ofPotter(1, 1), 0);
        due.is(x.stored(0, 0), 5 + 12);
        due.is(x.stored(1, 0), 0);

        x = Scenes.with(2, 5);
        Scenes.text(x, 1, "d*10+m");
        x.store(0, 0, 20);
        x.lend(0, 1, 0, 20, 3);
        x.days(3);
        due.is(x.stored(0, 0), 35);
    }

    private static void lastDay() {
        due.at("promises 18, 19, 21, 22: the last DAY");
        AshLoans x = Scenes.with(2, 5);
        for (int i = 0; i < 166; i++) {
            x.days(60);
        }
        due.is(x.count(3), 9960);
        due.is(x.days(40), STATE);
        due.is(x.loose(40), STATE);
        due.is(x.days(61), BEYOND);
        due.is(x.loose(41), BEYOND);
        due.is(x.count(9), 1);
        x.image();
        due.is(x.days(39), 0);
        due.is(x.count(3), 9999);
        due.is(x.restore(), 9960);
        due.is(x.days(38), 0);
        due.is(x.loose(2), STATE);
        due.is(x.loose(1), 0);
        due.is(x.count(3), 9999);
        due.is(x.days(1), STATE);
        x.hedge(0, 0, 0);
        x.store(0, 0, 10);
        x.store(1, 0, 0);
        due.is(x.lend(0, 1, 0, 10, 60), 0);
        due.is(x.ofLoan(0, 4), 10059);
        due.is(x.then(59, 0, 0), 0);
        due.is(x.then(60, 0, 0), 8);
        x.store(1, 0, 0);
        due.is(x.breaks(1), 60);
        due.is(x.count(3), 9999);
    }

    // ---- promises 20, 23 to 25 and 28

    private static void wouldBe() {
        due.at("promise 20");
        AshLoans x = Scenes.with(1, 7, 17, 27, 37, 47);
        Scenes.text(x, 0, "m+h+k*10");
        int[] at3 = {10, 21, 60, 40, 54};
        int[] at6 = {13, 24, 66, 7, 60};
        int mix = 1;
        for (int i = 0; i < 5; i++) {
            due.is(x.colour(mix, 3), at3[i] % 10);
            due.is(x.colour(mix, 6), at6[i] % 10);
            due.is(x.colour(mix * 7, 6), 7 * at6[i] % 10);
            mix *= 10;
        }
        x.become(0, 57);
        x.become(1, 67);
        due.is(x.colour(1, 3), (60 * 2 - 7) % 10);
        due.is(x.colour(10, 3), 9);
        due.is(x.colour(10, 6), 2);
        due.is(x.colour(90, 3), 10 - 9 * 61 % 10);
        due.is(x.colour(11111, 3), (113 - 61 + 60 + 40 + 54) % 10);
        due.is(x.colour(99999, 6), 9 * (2 * 63 - 7 + 2 + 66 + 7 + 60) % 10);
        due.is(x.colour(0, 9), 0);
        due.is(x.colour(10000, 7), (94 - 47 + 7 + 1 + 7) % 10);
        due.is(x.colour(10000, 8), KIND);
        due.is(x.colour(10000, 9), KIND);
        due.is(x.colour(10001, 9), KIND);
        due.is(x.colour(1111, 9), (2 * 66 - 7 + 2 + 2 * 36 + 7) % 10);
        x.become(1, 60);
        due.is(x.colour(10, 0), KIND);
        due.is(x.colour(10, 9), KIND);
        due.is(x.colour(1, 9), (2 * 66 - 7) % 10);
        due.is(x.colour(100000, 0), BEYOND);
        due.is(x.colour(-1, 0), BEYOND);
        due.is(x.colour(1, 10), BEYOND);
        due.is(x.colour(10, 10), BEYOND);
        due.is(x.colour(1, -1), BEYOND);
        x = Scenes.with(0, 32, 32);
        due.is(x.colour(1, 4), 6);
        due.is(x.colour(1, 5), 2);
        due.is(x.colour(99, 4), 8);
        due.is(x.colour(100, 4), BEYOND);
        due.is(x.colour(MAX, 4), BEYOND);
        due.is(x.colour(MIN, 4), BEYOND);

        recipes();

        due.at("promise 24");
        x = Scenes.with(0, 4, 42, 60, 63);
        due.is(x.heats(1, 4), 1);
        due.is(x.heats(1, 3), 1 << 9);
        due.is(x.heats(2, 8), 1 | 1 << 5);
        due.is(x.heats(2, 7), 0);
        due.is(x.heats(0, 0), 1023);
        due.is(x.heats(0, 1), 0);
        due.is(x.heats(10, 3), 1 | 1 << 5);
        due.is(x.heats(10, 9), 1 << 3);
        due.is(x.heats(50, 5), 255);
        due.is(x.heats(100, 0), 0);
        due.is(x.heats(1000, 6), 1 | 31 << 5);
        due.is(x.heats(10000, 0), BEYOND);
        due.is(x.heats(-1, 0), BEYOND);
        due.is(x.heats(1, 10), BEYOND);
        due.is(x.heats(1, -1), BEYOND);

        due.at("promise 28");
        due.is(x.odds(50, 5, 0), 4);
        due.is(x.odds(50, 5, 1), 5);
        due.is(x.odds(1000, 6, 0), 3);
        due.is(x.odds(1000, 6, 1), 5);
        due.is(x.odds(1, 4, 0), 1);
        due.is(x.odds(1, 4, 1), 10);
        due.is(x.odds(5, 0, 0), 1);
        due.is(x.odds(5, 0, 1), 2);
        due.is(x.odds(2, 7, 0), 0);
        due.is(x.odds(2, 7, 1), 1);
        due.is(x.odds(0, 0, 0), 1);
        due.is(x.odds(0, 0, 1), 1);
        due.is(x.odds(0, 0, 2), BEYOND);
        due.is(x.odds(0, 0, -1), BEYOND);
        due.is(x.odds(0, 10, 0), BEYOND);
        due.is(x.odds(0, -1, 0), BEYOND);
        due.is(x.odds(10000, 0, 0), BEYOND);
        due.is(x.odds(-1, 0, 0), BEYOND);
        Scenes.text(x, 0, "(h<7)*5");
        due.is(x.odds(1, 5, 0), 7);
        due.is(x.odds(1, 5, 1), 10);

        burning();
    }

    private static void recipes() {
        due.at("promise 23");
        AshLoans x = Scenes.with(2, 1, 2, 5);
        Scenes.text(x, 0, "m");
        x.store(0, 0, 9);
        x.store(0, 1, 2);
        due.is(x.recipe(0, 1, 0), 1);
        due.is(x.recipe(0, 2, 0), 10);
        due.is(x.recipe(0, 3, 0), 11);
        due.is(x.recipe(0, 4, 0), 20);
        due.is(x.recipe(0, 7, 0), 23);
        due.is(x.recipe(0, 8, 0), NONE);
        due.is(x.recipe(0, 0, 0), NONE);
        x.store(0, 2, 2);
        due.is(x.recipe(0, 0, 0), 200);
        due.is(x.recipe(0, 8, 0), 111);
        x.store(0, 1, 9);
        due.is(x.recipe(0, 6, 0), 101);
        x.store(0, 2, 0);
        due.is(x.recipe(0, 8, 0), 32);
        due.is(x.recipe(0, 6, 0), 30);
        x.become(1, 1);
        due.is(x.recipe(0, 3, 0), 3);
        due.is(x.recipe(0, 4, 0), 13);
        due.is(x.recipe(0, 7, 0), NONE);
        due.is(x.recipe(1, 1, 0), NONE);
        due.is(x.recipe(2, 1, 0), BEYOND);
        due.is(x.recipe(-1, 1, 0), BEYOND);
        due.is(x.recipe(0, 10, 0), BEYOND);
        due.is(x.recipe(0, -1, 0), BEYOND);
        due.is(x.recipe(0, 1, 10), BEYOND);
        due.is(x.recipe(0, 1, -1), BEYOND);
        x.become(0, 41);
        due.is(x.recipe(0, 9, 7), 1);
        due.is(x.recipe(0, 0, 8), NONE);
        due.is(x.recipe(0, 2, 8), 20);
        x.become(0, 60);
        due.is(x.recipe(0, 9, 0), NONE);
        x.become(0, 61);
        due.is(x.recipe(0, 8, 0), 1);
        due.is(x.recipe(0, 4, 0), 3);
        AshLoans y = Scenes.with(1, 1, 1, 1, 1, 1);
        Scenes.text(y, 0, "m");
        for (int ash = 0; ash < 5; ash++) {
            y.store(0, ash, 999);
        }
        due.is(y.recipe(0, 5, 0), 23);
        due.is(y.recipe(0, 0, 0), 1333);
        due.is(y.stored(0, 0), 999);
        due.is(y.count(4), 0);
    }

    private static void burning() {
        due.at("promise 25");
        AshLoans x = Scenes.with(0, 4, 14, 4, 34, 44);
        due.is(x.burnt(0), NONE);
        x.sheet(0, 8, 0);
        due.is(x.burnt(0), 31);
        Scenes.row(x, 0, 8, 4);
        due.is(x.burnt(0), 1 | 4 | 8);
        Scenes.row(x, 0, 8, -1, -1, -1, -1, -1, 9);
        due.is(x.burnt(0), 1 | 4);
        Scenes.row(x, 0, 8, -1, -1, -1, -1, -1, 4);
        due.is(x.burnt(0), 8);
        Scenes.row(x, 0, 8, 4, 255);
        due.is(x.burnt(0), 1 | 4 | 8);
        Scenes.row(x, 0, 8, 0);
        due.is(x.burnt(0), 0);
        Scenes.row(x, 0, 16, 5, -30000);
        due.is(x.burnt(0), 2 | 16);
        Scenes.row(x, 0, 32, 5, 7);
        due.is(x.burnt(0), 16);
        Scenes.row(x, 0, 32, 14);
        due.is(x.burnt(0), 0);
        Scenes.row(x, 0, 32, -1, -1, -1, -1, -1, -1, -1, -1, -1, -1);
        due.is(x.burnt(0), 31);
        Scenes.row(x, 0, 32, -1, -1, -1, -1, -1, -1, -1, -1, -1, 4);
        due.is(x.burnt(0), 2 | 8);
        Scenes.row(x, 0, 32, -1, -1, -1, -1, -1, -1, -1, -1, -1, 3);
        due.is(x.burnt(0), 1 | 4 | 16);
        due.is(x.colour(10000, 9), KIND);
        Scenes.row(x, 0, 32, -1, -1, -1, -1, -1, -1, -1, 9, 1);
        due.is(x.burnt(0), 16);
        Scenes.row(x, 0, 32, -1, -1, -1, -1, -1, -1, -1, 9, 2);
        due.is(x.burnt(0), 0);
        Scenes.row(x, 0, 32, -1, -1, -1, -1, -1, -1, -1, 9);
        due.is(x.burnt(0), 16);
        x.sheet(0, 32, 11);
        due.is(x.burnt(0), NONE);
        x.sheet(0, 0, 1);
        due.is(x.burnt(0), NONE);
        due.is(x.burnt(4), BEYOND);
        due.is(x.burnt(-1), BEYOND);
        x.become(0, 60);
        due.is(x.colour(1, 1), KIND);
        Scenes.row(x, 1, 8, -1, 9);
        due.is(x.burnt(1), 0);
        Scenes.row(x, 1, 8, -1, 8);
        due.is(x.burnt(1), 1);
        Scenes.row(x, 1, 8, 9, 8, 7, 6, 5, 9, 9, 9, 9, 9);
        due.is(x.burnt(1), 1);
        x.become(0, 65);
        Scenes.row(x, 1, 8, 4, 3);
        due.is(x.burnt(1), 1);
        Scenes.text(x, 0, "60");
        Scenes.row(x, 1, 8, 9);
        due.is(x.burnt(1), 1);
    }

    // ---- promises 21, 22, 26 and 27

    private static void thinking() {
        due.at("promise 21");
        AshLoans x = Scenes.with(2, 5, 6);
        x.store(0, 0, 50);
        x.hedge(1, 0, 3);
        x.hedge(1, 1, 1);
        x.lend(0, 1, 0, 20, 4);
        x.lend(0, 1, 0, 20, 6);
        due.is(x.then(0, 0, 0), 10);
        due.is(x.then(3, 0, 0), 10);
        due.is(x.then(4, 0, 0), 25);
        due.is(x.then(6, 0, 0), 40);
        due.is(x.then(60, 1, 1), 180);
        AshLoans y = Scenes.with(3, 5, 6);
        y.store(2, 1, 50);
        y.lend(2, 1, 1, 20, 4);
        due.is(y.then(4, 2, 1), 45);
        due.is(y.then(4, 1, 1), 0);
        due.is(y.then(4, 0, 1), 0);
        due.is(y.then(3, 1, 1), 20);
        due.is(y.image(), 1);
        y.back(0);
        y.restore();
        due.is(y.ofLoan(0, 0), 2);
        due.is(y.ofLoan(0, 1), 1);
        due.is(y.ofLoan(0, 2), 1);
        due.is(y.ofLoan(0, 3), 20);
        due.is(y.ofLoan(0, 4), 4);
        x.store(1, 0, 25);
        due.is(x.then(5, 1, -1), 0);
        due.is(x.then(6, 1, -1), 1);
        due.is(x.then(6, 1, 0), 5);
        due.is(x.count(3), 0);
        due.is(x.count(2), 2);
        due.is(x.stored(1, 1), 0);
        due.is(x.then(-1, 0, 0), BEYOND);
        due.is(x.then(61, 0, 0), BEYOND);
        due.is(x.then(1, 2, 0), BEYOND);
        due.is(x.then(1, -1, 0), BEYOND);
        due.is(x.then(1, 0, 2), BEYOND);
        due.is(x.then(1, 0, -2), BEYOND);

        due.at("promise 22");
        due.is(x.breaks(1), 6);
        due.is(x.breaks(0), NONE);
        x.store(1, 0, 0);
        due.is(x.breaks(1), 4);
        x.days(4);
        due.is(x.ofPotter(1, 1), 1);
        due.is(x.breaks(1), 2);
        x.store(1, 0, 20);
        due.is(x.breaks(1), NONE);
        due.is(x.breaks(2), BEYOND);
        due.is(x.breaks(-1), BEYOND);

        due.at("promise 26");
        x = Scenes.with(3, 5, 6);
        for (int potter = 0; potter < 3; potter++) {
            x.store(potter, 0, 300);
            x.store(potter, 1, 300);
        }
        due.is(x.round(), 0);
        x.lend(0, 1, 0, 10, 5);
        due.is(x.round(), 0);
        x.lend(1, 0, 1, 10, 5);
        due.is(x.round(), 0);
        x.lend(1, 2, 0, 50, 5);
        x.lend(2, 0, 0, 50, 5);
        due.is(x.round(), 0);
        x.lend(1, 0, 0, 4, 9);
        due.is(x.round(), 4);
        x.lend(1, 0, 0, 9, 5);
        due.is(x.round(), 10);
        x.lend(0, 1, 1, 3, 5);
        due.is(x.round(), 13);
        x.lend(0, 2, 0, 60, 5);
        due.is(x.round(), 63);
        x.lend(2, 1, 0, 20, 5);
        due.is(x.round(), 83);
        x = Scenes.with(2, 5, 6, 7);
        x.store(0, 0, 90);
        x.store(0, 1, 90);
        x.store(1, 1, 90);
        x.store(1, 2, 90);
        x.lend(0, 1, 0, 70, 5);
        x.lend(1, 0, 2, 60, 5);
        due.is(x.round(), 0);
        x.lend(0, 1, 1, 8, 5);
        x.lend(1, 0, 1, 7, 5);
        due.is(x.round(), 7);
        lenders();
    }

    private static void lenders() {
        due.at("promise 27");
        AshLoans x = Scenes.with(4, 5, 6);
        due.is(x.lender(0, 0, 1, 1), NONE);
        x.store(0, 0, 50);
        x.store(1, 0, 50);
        x.store(2, 0, 40);
        due.is(x.lender(3, 0, 40, 5), 0);
        due.is(x.lender(0, 0, 40, 5), 1);
        due.is(x.lender(1, 0, 51, 5), NONE);
        due.is(x.lender(3, 0, 50, 5), 0);
        x.store(3, 0, 950);
        due.is(x.lender(3, 0, 49, 5), 0);
        due.is(x.lender(3, 0, 50, 5), NONE);
        x.store(3, 0, 0);
        x.lend(1, 0, 0, 40, 3);
        x.store(2, 0, 60);
        due.is(x.lender(3, 0, 50, 20), 0);
        due.is(x.lender(3, 0, 51, 20), 2);
        due.is(x.lender(3, 0, 60, 20), 2);
        due.is(x.lender(3, 0, 60, 3), 2);
        due.is(x.lender(3, 0, 60, 2), 0);
        due.is(x.lender(4, 0, 1, 1), BEYOND);
        due.is(x.lender(-1, 0, 1, 1), BEYOND);
        due.is(x.lender(0, 2, 1, 1), BEYOND);
        due.is(x.lender(0, -1, 1, 1), BEYOND);
        due.is(x.lender(0, 0, 0, 1), BEYOND);
        due.is(x.lender(0, 0, 100, 1), BEYOND);
        due.is(x.lender(0, 0, 1, 0), BEYOND);
        due.is(x.lender(0, 0, 1, 21), BEYOND);
        due.is(x.count(2), 1);
        due.is(x.stored(3, 0), 0);
        due.is(x.count(5), 0);
        for (int i = 1; i < 10; i++) {
            x.lend(0, 3, 0, 1, 5);
        }
        due.is(x.lender(3, 0, 1, 1), FULL);
        due.is(x.lender(3, 1, 1, 1), FULL);
        due.is(x.lender(3, 0, 1, 21), BEYOND);
    }

    // ---- promises 30 and 31

    private static void voices() {
        due.at("promise 30");
        int x = 5;
        int n = 2;
        int m = 4;
        int burns = x + n;
        int melts = burns * 2;
        int runs = x - m;
        int glows = melts ^ runs;
        voice(0, m, new int[] {burns, melts, runs, glows});
        int birchBurns = burns * 3;
        int birchMelts = birchBurns * 2;
        voice(1, m, new int[] {birchBurns, birchMelts, runs, birchMelts ^ runs});
        int oakMelts = melts - (1 - m);
        voice(2, m, new int[] {burns, oakMelts, runs, oakMelts ^ runs});
        voice(3, m, new int[] {burns, melts, -runs, melts ^ -runs});
        voice(4, m, new int[] {birchBurns, birchMelts, runs, (birchMelts ^ runs) - (2 + n) * 3});
        int reedMelts = (x + 1 + n) * 2 - (1 - m);
        voice(5, m, new int[] {burns, reedMelts, runs, reedMelts ^ runs});
        int dungRuns = -runs ^ n;
        voice(6, m, new int[] {burns, melts, dungRuns, melts - (melts ^ dungRuns)});
        AshLoans a = Scenes.with(0, 0, 13, 69);
        due.is(a.voice(0, 1, MAX), -2);
        due.is(a.voice(1, 0, MAX), (MAX + 1) * 3);
        due.is(a.voice(0, 0, -1000000001), -1000000001);
        due.is(a.told(1), 0);
        due.is(a.voice(3, 0, 0), BEYOND);
        due.is(a.voice(-1, 0, 0), BEYOND);
        due.is(a.voice(0, 4, 0), BEYOND);
        due.is(a.voice(0, -1, 0), BEYOND);

        due.at("promise 31");
        AshLoans b = Scenes.with(0, 4, 14, 24, 34, 44);
        due.is(b.trace(0), NONE);
        trace(b, 0, 3, 13, 11, 10, 12);
        trace(b, 1, 1, 11, 20, 10);
        trace(b, 2, 1, 30, 11, 10, 12);
        trace(b, 3, 2, 40, 12);
        trace(b, 3, 3, 13, 11, 10, 40, 12);
        trace(b, 4, 3, 50, 13, 11, 20, 10, 12, 20, 10);
        b.become(0, 53);
        trace(b, 0, 1, 60, 30, 11, 10, 12);
        trace(b, 0, 3, 13, 60, 30, 11, 10, 12, 12);
        b.become(0, 63);
        trace(b, 0, 2, 70, 40, 12);
        trace(b, 0, 3, 71, 11, 10, 13, 11, 10, 70, 40, 12);
        due.is(b.voice(9, 0, 0), BEYOND);
        due.is(b.count(8), 9);
        due.is(b.trace(1), 11);
        due.is(b.trace(9), NONE);
        due.is(b.trace(-1), NONE);
        due.is(b.trace(40), NONE);
        due.is(b.trace(MIN), NONE);
    }

    /** What ASH 2 of a KIND answers for each act with 5. */
    private static void voice(int kind, int m, int[] answers) {
        AshLoans x = Scenes.with(0, 0, 0, kind * 10 + m);
        for (int act = 0; act < 4; act++) {
            due.is(x.voice(2, act, 5), answers[act]);
        }
    }

    private static void trace(AshLoans x, int ash, int act, int... bodies) {
        x.voice(ash, act, 7);
        due.is(x.count(8), bodies.length);
        for (int i = 0; i < bodies.length; i++) {
            due.is(x.trace(i), bodies[i]);
        }
        due.is(x.trace(bodies.length), NONE);
    }

    // ---- promises 32 to 36

    private static void sheets() {
        due.at("promise 32");
        AshLoans x = new AshLoans();
        due.is(x.sheet(4, 8, 1), BEYOND);
        due.is(x.sheet(-1, 8, -1), BEYOND);
        due.is(x.sheet(0, 7, -1), BEYOND);
        due.is(x.sheet(0, 64, 1), BEYOND);
        due.is(x.sheet(0, 8, -1), STATE);
        due.is(x.sheet(0, 8, MIN), STATE);
        due.is(x.sheet(0, 8, 41), BEYOND);
        due.is(x.put(0, 0, 0), NONE);
        due.is(x.sheet(0, 8, 40), 1);
        due.is(x.put(0, 39, 5), 1);
        due.is(x.sheet(0, 0, -1), 1);
        due.is(x.put(0, 0, 0), NONE);
        due.is(x.sheet(0, 0, 99), 1);
        due.is(x.sheet(0, 16, 0), 1);
        due.is(x.put(0, 0, 0), BEYOND);
        due.is(x.judge(0), -1);
        due.is(x.sheet(3, 32, 2), 1);
        x.ash(0);
        x.ash(0);
        due.is(x.hedge(0, 0, 4), 0);
        due.is(x.hedges(3), 2);
        due.is(x.ofAsh(0, 2), 0);
        Scenes.row(x, 3, 8, 7, 7);
        x.sheet(3, 8, 2);
        due.is(x.hedges(3), 2);
        due.is(x.ofAsh(0, 2), 0);
        due.is(x.ofAsh(1, 2), 0);

        due.at("promise 33");
        Scenes.row(x, 0, 8, 0);
        due.is(x.put(4, 0, 0), BEYOND);
        due.is(x.put(-1, 0, 0), BEYOND);
        due.is(x.put(1, -1, 0), NONE);
        due.is(x.put(0, 1, 0), BEYOND);
        due.is(x.put(0, -1, 0), BEYOND);
        due.is(x.put(0, 0, 256 + 5), 1);
        due.is(x.hedges(0), 1);
        due.is(x.ofAsh(0, 2), 5);
        Scenes.row(x, 0, 16, 256 + 5);
        due.is(x.hedges(0), 0);
        due.is(x.put(0, 0, 65536 + 6), 1);
        due.is(x.hedges(0), 1);
        due.is(x.ofAsh(0, 2), 6);
        Scenes.row(x, 0, 32, 65536 + 7);
        due.is(x.hedges(0), 0);
        due.is(x.put(0, 0, 8), 1);
        due.is(x.hedges(0), 1);
        due.is(x.ofAsh(0, 2), 8);
        moves();
        hedgesOfSheets();

        due.at("promise 36");
        x = Scenes.with(2, 5);
        x.store(0, 0, 500);
        due.is(x.judge(0), NONE);
        due.is(x.judge(4), BEYOND);
        due.is(x.judge(-1), BEYOND);
        x.sheet(0, 8, 0);
        due.is(x.judge(0), -1);
        x.sheet(0, 8, 1);
        due.is(x.judge(0), 0);
        x.lend(0, 1, 0, 99, 9);
        x.lend(0, 1, 0, 7, 9);
        due.is(x.judge(0), 0);
        x.put(0, 0, 99);
        due.is(x.judge(0), 1);
        Scenes.row(x, 0, 8, 99, 8);
        due.is(x.judge(0), 1);
        Scenes.row(x, 0, 8, 99, 7);
        due.is(x.judge(0), -1);
        Scenes.row(x, 0, 8, 99, 7, 0);
        due.is(x.judge(0), 2);
        x.days(9);
        due.is(x.judge(0), 0);
    }

    private static void moves() {
        due.at("promise 34");
        AshLoans x = Scenes.with(0, 0, 0, 0, 0, 0);
        Scenes.row(x, 0, 8, 1, 2, 3, 4, 5);
        Scenes.row(x, 1, 8, 9, 9, 9, 9, 9);
        Scenes.row(x, 2, 16, 9, 9);
        due.is(x.move(4, 0, 0, 0, 0), BEYOND);
        due.is(x.move(0, 0, 4, 0, 0), BEYOND);
        due.is(x.move(-1, 0, 0, 0, 0), BEYOND);
        due.is(x.move(0, 0, -1, 0, 0), BEYOND);
        due.is(x.move(4, 0, 3, 0, 0), BEYOND);
        due.is(x.move(0, -1, 3, 0, 0), NONE);
        due.is(x.move(3, 0, 0, 0, 0), NONE);
        due.is(x.move(3, 0, 3, 0, 0), NONE);
        due.is(x.move(0, -1, 2, 0, 1), KIND);
        due.is(x.move(2, 0, 0, 0, 1), KIND);
        due.is(x.move(0, -1, 1, 0, 1), BEYOND);
        due.is(x.move(0, 0, 1, -1, 1), BEYOND);
        due.is(x.move(0, 0, 1, 0, -1), BEYOND);
        due.is(x.move(0, 0, 1, 0, 6), BEYOND);
        due.is(x.move(0, 3, 1, 0, 3), BEYOND);
        due.is(x.move(0, 0, 1, 3, 3), BEYOND);
        due.is(x.move(0, MAX, 1, 0, 1), BEYOND);
        due.is(x.move(0, 0, 1, MAX, MAX), BEYOND);
        due.is(x.move(0, 1, 1, 1, MAX), BEYOND);
        due.is(x.move(0, 6, 1, 0, 0), BEYOND);
        due.is(x.move(0, 5, 1, 5, 0), 0);
        hedgesAre(x, 1, 9, 9, 9, 9, 9);
        due.is(x.move(0, 1, 1, 2, 3), 3);
        hedgesAre(x, 1, 9, 9, 2, 3, 4);
        hedgesAre(x, 0, 1, 2, 3, 4, 5);
        due.is(x.move(0, 0, 0, 1, 4), 4);
        hedgesAre(x, 0, 1, 1, 2, 3, 4);
        due.is(x.move(0, 2, 0, 0, 3), 3);
        hedgesAre(x, 0, 2, 3, 4, 3, 4);
        due.is(x.move(0, 0, 1, 0, 5), 5);
        hedgesAre(x, 1, 2, 3, 4, 3, 4);
    }

    private static void hedgesAre(AshLoans x, int sheet, int... numbers) {
        due.is(x.hedges(sheet), numbers.length);
        for (int i = 0; i < numbers.length; i++) {
            due.is(x.ofAsh(i, 2), numbers[i]);
        }
    }

    private static void hedgesOfSheets() {
        due.at("promise 35");
        AshLoans x = Scenes.with(0, 0, 0, 0);
        due.is(x.hedges(4), BEYOND);
        due.is(x.hedges(-1), BEYOND);
        due.is(x.hedges(0), NONE);
        x.sheet(0, 8, 0);
        due.is(x.hedges(0), 0);
        Scenes.row(x, 0, 8, 3, 4);
        due.is(x.hedges(0), 2);
        due.is(x.ofAsh(1, 2), 4);
        due.is(x.ofAsh(2, 2), 0);
        Scenes.row(x, 0, 8, 0, 9, 8, 7, 6);
        due.is(x.hedges(0), 3);
        due.is(x.ofAsh(0, 2), 0);
        due.is(x.ofAsh(1, 2), 9);
        due.is(x.ofAsh(2, 2), 8);
        Scenes.row(x, 0, 8, 5, -1, 5);
        due.is(x.hedges(0), 1);
        due.is(x.ofAsh(0, 2), 5);
        due.is(x.ofAsh(1, 2), 9);
        due.is(x.ofAsh(2, 2), 8);
        Scenes.row(x, 0, 8, 6, 6, 10);
        due.is(x.hedges(0), 2);
        due.is(x.ofAsh(2, 2), 8);
        due.is(x.told(1), 2);
    }

    // ---- promises 37 and 38

    private static void images() {
        due.at("promises 37 and 38");
        AshLoans x = Scenes.with(2, 5);
        due.is(x.restore(), NONE);
        x.store(0, 0, 100);
        x.hedge(0, 0, 3);
        x.hedge(0, 1, 1);
        x.lend(0, 1, 0, 10, 5);
        x.lend(0, 1, 0, 20, 9);
        x.fire(0, 3, 1);
        Scenes.text(x, 0, "7");
        Scenes.text(x, 1, "8");
        Scenes.feed(x, "m+");
        x.tell(2);
        x.tell(4);
        x.seed(99);
        x.days(3);
        Scenes.row(x, 0, 8, 1);
        due.is(x.image(), 1);

        x.ash(61);
        x.store(0, 1, 40);
        x.potter();
        x.store(2, 0, 77);
        x.become(0, 49);
        x.hedge(0, 0, 7);
        x.hedge(0, 1, 2);
        x.loose(20);
        x.store(0, 0, 5);
        x.fire(0, 1, 1);
        Scenes.text(x, 0, "1");
        x.text(0);
        Scenes.text(x, 1, "2");
        Scenes.feed(x, "k");
        x.check();
        x.tell(9);
        x.voice(0, 0, 0);
        Scenes.row(x, 0, 8, 10, 20);
        int refused = x.told(1);
        due.is(x.restore(), 3);

        due.is(x.count(0), 1);
        due.is(x.count(1), 2);
        due.is(x.count(2), 2);
        due.is(x.count(3), 3);
        due.is(x.count(4), 1);
        due.is(x.count(5), 0);
        due.is(x.count(6), 2);
        due.is(x.count(7), 2);
        due.is(x.count(8), 2);
        due.is(x.count(9), 99);
        due.is(x.told(1), refused);
        due.is(x.stored(0, 0), 67);
        due.is(x.stored(1, 0), 39);
        due.is(x.ofAsh(0, 0), 0);
        due.is(x.ofAsh(0, 1), 5);
        due.is(x.ofAsh(0, 2), 3);
        due.is(x.ofAsh(0, 3), 1);
        due.is(x.law(0, 0, 0, 0), 7);
        due.is(x.law(1, 0, 0, 0), 8);
        due.is(x.judge(0), -1);
        x.put(0, 0, 11);
        due.is(x.judge(0), 0);
        due.is(x.ofLoan(1, 4), 9);
        due.is(x.check(), 0 + 2);
        x.restore();
        due.is(x.feed('9', 1), 3);
        due.is(x.text(0), 1);
        due.is(x.law(0, 90, 0, 0), 99);
        due.is(x.law(0, 80, 0, 0), 89);
        due.is(x.ash(12), 1);
        due.is(x.stored(0, 1), 0);
        due.is(x.potter(), 2);
        due.is(x.stored(2, 0), 0);
        due.is(x.ofPotter(2, 1), 0);

        begunAnew();

        due.is(x.image(), 2);
        x.days(1);
        due.is(x.restore(), 3);
        due.is(x.count(0), 2);
        due.is(x.restore(), 3);
        due.is(x.image(), 3);
    }

    /** An ASH and a POTTER that come in place of those that an IMAGE undid have nothing of them. */
    private static void begunAnew() {
        AshLoans x = Scenes.with(1, 5);
        x.image();
        x.ash(66);
        x.potter();
        x.hedge(1, 0, 9);
        x.hedge(1, 1, 1);
        x.store(1, 1, 30);
        x.store(0, 0, 10);
        x.lend(0, 1, 0, 5, 1);
        x.store(1, 0, 4);
        x.days(1);
        x.fire(1, 1, 0);
        due.is(x.count(4), 1);
        due.is(x.count(5), 1);
        due.is(x.restore(), 0);
        due.is(x.ash(12), 1);
        due.is(x.potter(), 1);
        due.is(x.ofAsh(1, 0), 1);
        due.is(x.ofAsh(1, 1), 2);
        due.is(x.ofAsh(1, 2), 0);
        due.is(x.ofAsh(1, 3), 0);
        due.is(x.stored(1, 0), 0);
        due.is(x.stored(1, 1), 0);
        due.is(x.ofPotter(1, 0), 0);
        due.is(x.ofPotter(1, 1), 0);
    }

    // ---- promises 39 to 42

    private static void telling() {
        due.at("promise 39");
        AshLoans x = Scenes.with(2, 5);
        for (int i = 1; i <= 20; i++) {
            due.is(x.tell(MIN), i);
        }
        due.is(x.tell(0), FULL);
        due.is(x.count(7), 20);

        due.at("promise 40");
        due.is(x.check(), 1);
        due.is(x.count(7), 0);
        due.is(x.check(), 0);
        x.store(0, 0, 100);
        x.lend(0, 1, 0, 10, 2);
        x.lend(0, 1, 0, 10, 2);
        x.lend(0, 1, 0, 10, 4);
        x.store(1, 0, 5);
        int[] left = {3, 1, 1, 0, 0};
        for (int number : left) {
            x.tell(number);
        }
        due.is(x.check(), 0);
        for (int number : left) {
            x.tell(number);
        }
        x.tell(1);
        x.tell(2);
        due.is(x.check(), 6);
        x.tell(3);
        x.tell(2);
        due.is(x.check(), 2);
        for (int i = 0; i < 20; i++) {
            x.tell(i == 0 ? 3 : i < 3 ? 1 : 0);
        }
        due.is(x.check(), 0);
        due.is(x.count(2), 3);
        due.is(x.count(3), 0);
        due.is(x.count(5), 0);

        due.at("promise 41");
        x.days(2);
        x.fire(0, 2, 2);
        x.fire(1, 1, 2);
        Scenes.feed(x, "m*m");
        x.tell(8);
        x.voice(0, 1, 1);
        x.seed(-1000000002);
        int[] counts = {1, 2, 1, 2, 2, 2, 3, 1, 2, -1000000002};
        for (int what = 0; what <= 9; what++) {
            due.is(x.count(what), counts[what]);
        }
        due.is(x.count(10), BEYOND);
        due.is(x.count(-1), BEYOND);
        due.is(x.told(2), 0);
        due.is(x.told(1), 2);

        due.at("promise 42");
        x = new AshLoans();
        x.days(0);
        x.trace(0);
        x.trace(0);
        x.sheet(0, 8, -1);
        x.sheet(0, 8, -1);
        x.sheet(0, 8, -1);
        x.sheet(0, 8, 1);
        x.sheet(1, 16, 1);
        for (int i = 0; i < 8; i++) {
            x.potter();
        }
        for (int i = 0; i < 5; i++) {
            x.move(0, 0, 1, 0, 1);
        }
        due.is(x.told(1), 1);
        due.is(x.told(2), 2);
        due.is(x.told(3), 3);
        due.is(x.told(4), 4);
        due.is(x.told(5), 5);
        due.is(x.told(0), BEYOND);
        due.is(x.told(6), BEYOND);
        due.is(x.told(MIN), BEYOND);
        due.is(x.told(1), 4);
        mostBroken();
    }

    /** BROKEN is never above 99, and POTS are counted one by one. */
    private static void mostBroken() {
        due.at("promises 8, 18: most BROKEN");
        AshLoans x = Scenes.with(2, 5);
        int calls = 3;
        while (x.ofPotter(1, 1) < 99 && calls < 500) {
            x.store(0, 0, 10);
            for (int i = 0; i < 10; i++) {
                x.lend(0, 1, 0, 1, 1);
            }
            x.store(1, 0, 0);
            x.days(1);
            calls += 14;
        }
        due.is(x.ofPotter(1, 1), 99);
        x.store(0, 0, 1);
        x.lend(0, 1, 0, 1, 1);
        x.store(1, 0, 0);
        due.is(x.then(1, 1, -1), 99);
        due.is(x.breaks(1), NONE);
        due.is(x.days(1), 0);
        due.is(x.ofPotter(1, 1), 99);
    }
}
