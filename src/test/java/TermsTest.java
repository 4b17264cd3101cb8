/** The edges that the Terms of the document name, sentence by sentence, each on objects of its own. */
public final class TermsTest {
    private static final int BEYOND = Due.BEYOND;
    private static final int NONE = Due.NONE;
    private static final int STATE = Due.STATE;
    private static final int FULL = Due.FULL;
    private static final int KIND = Due.KIND;
    private static final int MIN = Integer.MIN_VALUE;
    private static final int MAX = Integer.MAX_VALUE;
    private static final Due due = new Due();

    public static void main(String[] args) {
        errors();
        ashesAndPotters();
        mostOfAPotter();
        colours();
        forbidden();
        mixes();
        loans();
        givenBack();
        aDay();
        tape();
        parts();
        open();
        ints();
        faults();
        uses();
        behind();
        breaks();
        recipes();
        heatsAndOdds();
        burnt();
        roundAndOwed();
        lenders();
        draws();
        voices();
        sheets();
        due.end();
    }

    // ---- ahead of block 1

    private static void errors() {
        due.at("LOW - 1 BEYOND");
        due.is(new AshLoans().ash(-1), -1000000001);
        due.at("LOW - 2 NONE");
        due.is(new AshLoans().trace(0), -1000000002);
        due.at("LOW - 3 STATE");
        due.is(new AshLoans().sheet(0, 8, -1), -1000000003);
        due.at("LOW - 4 FULL");
        due.is(Scenes.with(4).potter(), -1000000004);
        due.at("LOW - 5 KIND");
        due.is(Scenes.with(0, 10).as(0, 2), -1000000005);

        due.at("ERRORS are answers below LOW, but any number is none and is not counted");
        AshLoans x = Scenes.with(0, 0);
        for (int k = 0; k <= 6; k++) {
            x.seed(-1000000000 - k);
            due.is(x.count(9), -1000000000 - k);
            due.is(x.voice(0, 0, -1000000000 - k), -1000000000 - k);
        }
        for (int k = 1; k <= 5; k++) {
            due.is(x.told(k), 0);
        }

        due.at("Quotients are cut (toward 0)");
        due.is(Scenes.back("(0-7)/2+9"), 6);
        due.is(Scenes.back("7/(0-2)+9"), 6);
        due.is(Scenes.back("(0-7)/(0-2)"), 3);
        due.is(Scenes.back("(0-1)/2+9"), 9);
        due.is(new AshLoans().law(1, 7, 0, 0), 6);
    }

    // ---- block 1

    private static void ashesAndPotters() {
        due.at("ASHES 0, 1, .. (at most 5)");
        AshLoans x = new AshLoans();
        for (int i = 0; i < 5; i++) {
            due.is(x.ash(i), i);
        }
        due.is(x.ash(0), FULL);
        due.is(x.count(0), 5);
        due.is(x.ofAsh(4, 1), 4);

        due.at("YEW under BIRCH; REED under OAK; DUNG under STRAW: not the other way, nor next to it");
        x = Scenes.with(0, 41, 52, 63);
        due.is(x.as(0, 1), 1);
        due.is(x.as(0, 2), KIND);
        due.is(x.as(1, 2), 2);
        due.is(x.as(1, 3), KIND);
        due.is(x.as(2, 3), 3);
        due.is(x.as(2, 1), KIND);
        x = Scenes.with(0, 14, 25, 36);
        due.is(x.as(0, 4), KIND);
        due.is(x.as(1, 5), KIND);
        due.is(x.as(2, 6), KIND);
        due.is(x.as(0, 0), 4);

        due.at("a number m (0 to 9)");
        x = Scenes.with(0, 0, 9, 10, 69);
        due.is(x.ofAsh(0, 1), 0);
        due.is(x.ofAsh(1, 1), 9);
        due.is(x.ofAsh(1, 0), 0);
        due.is(x.ofAsh(2, 1), 0);
        due.is(x.ofAsh(2, 0), 1);
        due.is(x.ofAsh(3, 1), 9);
        due.is(x.ofAsh(3, 0), 6);

        due.at("a HEDGE (0 to 9; 0 at first), which go to a POTTER (0 at first)");
        x = Scenes.with(1, 69);
        due.is(x.hedge(0, 0, 9), 0);
        due.is(x.hedge(0, 1, 3), 0);
        due.is(x.hedge(0, 0, 0), 9);
        due.is(x.hedge(0, 1, 0), 3);

        due.at("POTTERS 0, 1, .. (at most 4)");
        x = new AshLoans();
        for (int i = 0; i < 4; i++) {
            due.is(x.potter(), i);
        }
        due.is(x.potter(), FULL);
        due.is(x.count(1), 4);
        due.is(x.ofPotter(3, 0), 0);
        due.is(x.ofPotter(4, 0), BEYOND);

        due.at("BUSHELS (0 to 999; 0 at first), POTS (0 at first), BROKEN (0 at first), DAY (0 at first)");
        x = Scenes.with(4, 1, 1, 1, 1, 1);
        for (int potter = 0; potter < 4; potter++) {
            for (int ash = 0; ash < 5; ash++) {
                due.is(x.stored(potter, ash), 0);
            }
            due.is(x.ofPotter(potter, 0), 0);
            due.is(x.ofPotter(potter, 1), 0);
        }
        due.is(x.count(3), 0);
        due.is(x.store(3, 4, 999), 0);
        due.is(x.store(3, 4, 0), 999);
    }

    private static void mostOfAPotter() {
        due.at("BROKEN (loans, 0 to 99)");
        AshLoans x = Scenes.with(2, 5);
        for (int nines = 0; nines < 11; nines++) {
            breakLoans(x, 9);
        }
        due.is(x.ofPotter(1, 1), 99);
        breakLoans(x, 1);
        due.is(x.ofPotter(1, 1), 99);
        due.is(x.count(5), 99);
        due.is(x.count(2), 0);

        due.at("BROKEN (loans, 0 to 99): several on one DAY");
        x = Scenes.with(2, 5);
        for (int tens = 0; tens < 9; tens++) {
            breakLoans(x, 10);
        }
        breakLoans(x, 8);
        due.is(x.ofPotter(1, 1), 98);
        breakLoans(x, 3);
        due.is(x.ofPotter(1, 1), 99);

        due.at("DAY (0 to 9999)");
        x = Scenes.after(166, new AshLoans());
        due.is(x.count(3), 9960);
        due.is(x.days(39), 0);
        due.is(x.count(3), 9999);
        due.is(x.days(1), STATE);
        due.is(x.loose(1), STATE);
        due.is(x.count(3), 9999);
    }

    private static void breakLoans(AshLoans x, int many) {
        x.store(0, 0, many);
        for (int i = 0; i < many; i++) {
            x.lend(0, 1, 0, 1, 1);
        }
        x.store(1, 0, 0);
        x.days(1);
    }

    private static void colours() {
        due.at("ASH: v. BIRCH: v, and 1. OAK: v times 2 (v is least)");
        AshLoans x = Scenes.with(0, 0, 10, 20, 40, 50);
        due.is(x.colour(1, 0), 0);
        due.is(x.colour(10, 0), 1);
        due.is(x.colour(100, 0), 0);
        due.is(x.colour(1000, 0), 1);
        due.is(x.colour(10000, 0), 0);
        due.at("ASH: v. BIRCH: v, and 1. OAK: v times 2 (v is most)");
        Scenes.text(x, 0, "99");
        due.is(x.colour(1, 9), 9);
        due.is(x.colour(10, 9), 0);
        due.is(x.colour(100, 9), 8);
        due.is(x.colour(1000, 7), 7);
        due.is(x.colour(10000, 9), 8);

        due.at("v is what the TEXT gives, held within 0 to 99");
        x = Scenes.with(0, 5);
        Scenes.text(x, 0, "100");
        due.is(x.colour(1, 0), 9);
        Scenes.text(x, 0, "0-1");
        due.is(x.colour(1, 0), 0);

        due.at("STRAW: v, if HEAT is below 5, else m");
        x = Scenes.with(0, 32);
        due.is(x.colour(1, 0), 2);
        due.is(x.colour(1, 4), 6);
        due.is(x.colour(1, 5), 2);
        due.is(x.colour(1, 9), 2);

        due.at("YEW: as BIRCH, and HEAT");
        x = Scenes.with(0, 42);
        due.is(x.colour(1, 0), 3);
        due.is(x.colour(1, 7), 7);

        due.at("REED: as OAK, less m: below 0, too");
        x = Scenes.with(0, 59);
        due.is(x.colour(1, 0), 9);
        Scenes.text(x, 0, "0");
        due.is(x.colour(1, 0), 1);

        due.at("DUNG: 9 less STRAW's: below 5 and from 5 on");
        x = Scenes.with(0, 62);
        due.is(x.colour(1, 4), 3);
        due.is(x.colour(1, 5), 7);
        due.is(x.colour(1, 9), 7);
        Scenes.text(x, 0, "98");
        due.is(x.colour(1, 4), 1);
        due.is(x.colour(1, 5), 7);
    }

    private static void forbidden() {
        due.at("FORBIDDEN: YEW at a HEAT of 8 or more");
        AshLoans x = Scenes.with(0, 40);
        for (int heat = 0; heat < 8; heat++) {
            due.is(x.colour(1, heat), (2 * heat + 1) % 10);
        }
        due.is(x.colour(1, 8), KIND);
        due.is(x.colour(1, 9), KIND);

        due.at("FORBIDDEN: DUNG, if m is 0");
        x = Scenes.with(0, 60, 61, 69);
        for (int heat = 0; heat < 10; heat++) {
            due.is(x.colour(1, heat), KIND);
            due.is(x.colour(10, heat) == KIND ? 1 : 0, 0);
            due.is(x.colour(100, heat) == KIND ? 1 : 0, 0);
        }

        due.at("FORBIDDEN: others never");
        for (int kind : new int[] {0, 1, 2, 3, 5}) {
            x = Scenes.with(0, 10 * kind);
            for (int heat = 0; heat < 10; heat++) {
                due.is(x.colour(1, heat) == KIND ? 1 : 0, 0);
            }
        }
    }

    private static void mixes() {
        due.at("BUSHELS of ASHES (0 to 9 each), as digits: of ASH 0 the lowest one");
        AshLoans x = Scenes.with(1, 1, 0, 0, 0, 2);
        due.is(x.colour(1, 0), 1);
        due.is(x.colour(9, 0), 9);
        due.is(x.colour(10, 0), 0);
        due.is(x.colour(10000, 0), 2);
        due.is(x.colour(90000, 0), 8);
        due.is(x.colour(90009, 0), 7);
        x.store(0, 4, 9);
        due.is(x.fire(0, 90000, 0), 8);
        due.is(x.stored(0, 4), 0);

        due.at("the rest by 10 of all BUSHELS, together");
        x = Scenes.with(0, 5, 5);
        due.is(x.colour(11, 0), 0);
        due.is(x.colour(12, 0), 5);
        due.is(x.colour(99, 9), 2);

        due.at("a rest below 0: and 10 more");
        x = Scenes.with(0, 51, 55, 50);
        Scenes.text(x, 0, "0");
        due.is(x.colour(1, 0), 9);
        due.is(x.colour(9, 0), 1);
        due.is(x.colour(10, 0), 5);
        due.is(x.colour(20, 0), 0);
        due.is(x.colour(99, 0), 6);
        due.is(x.colour(900, 0), 0);

        due.at("FORBIDDEN, if one of its ASHES is: not if there is no BUSHEL of that one");
        x = Scenes.with(0, 3, 43, 60);
        due.is(x.colour(1, 8), 1);
        due.is(x.colour(11, 8), KIND);
        due.is(x.colour(11, 7), (10 + 18) % 10);
        due.is(x.colour(101, 0), KIND);
        due.is(x.colour(0, 9), 0);
    }

    private static void loans() {
        due.at("LOANS 0 .. 9 (at most 10 at a time)");
        AshLoans x = Scenes.with(2, 5);
        for (int i = 0; i < 10; i++) {
            due.is(Scenes.lent(x, 0, 1, 0, 1, 9), i);
        }
        due.is(Scenes.lent(x, 0, 1, 0, 1, 9), FULL);
        due.is(x.count(2), 10);
        due.is(x.back(4), 1);
        due.is(x.count(2), 9);
        due.is(Scenes.lent(x, 0, 1, 0, 1, 9), 9);
        due.is(x.count(2), 10);

        due.at("from a POTTER to another one");
        x = Scenes.with(2, 5);
        x.store(0, 0, 5);
        due.is(x.lend(0, 0, 0, 1, 1), BEYOND);
        due.is(x.lend(0, 1, 0, 1, 1), 0);

        due.at("BUSHELS (1 to 99)");
        x = Scenes.with(2, 5);
        x.store(0, 0, 200);
        due.is(x.lend(0, 1, 0, 0, 1), BEYOND);
        due.is(x.lend(0, 1, 0, 1, 1), 0);
        due.is(x.lend(0, 1, 0, 99, 1), 1);
        due.is(x.lend(0, 1, 0, 100, 1), BEYOND);
        due.is(x.stored(0, 0), 100);
        due.is(x.stored(1, 0), 100);
    }

    private static void givenBack() {
        due.at("the one who has it gives as many BUSHELS of that ASH: to the last one");
        AshLoans x = Scenes.with(2, 5);
        Scenes.lent(x, 0, 1, 0, 8, 9);
        due.is(x.back(0), 6);
        due.is(x.stored(1, 0), 0);
        due.is(x.stored(0, 0), 6);

        due.at("the other one gets what the other TEXT gives of them (both held): 999 at most");
        x = Scenes.with(2, 5);
        Scenes.lent(x, 0, 1, 0, 8, 9);
        x.store(0, 0, 993);
        due.is(x.back(0), 6);
        due.is(x.stored(0, 0), 999);
        Scenes.lent(x, 0, 1, 0, 8, 9);
        x.store(0, 0, 994);
        due.is(x.back(0), 6);
        due.is(x.stored(0, 0), 999);
        due.at("the other one gets what the other TEXT gives of them: none, or more than was lent");
        x = Scenes.with(2, 5);
        Scenes.lent(x, 0, 1, 0, 8, 9);
        Scenes.text(x, 1, "0-1");
        due.is(x.back(0), 0);
        due.is(x.stored(0, 0), 0);
        due.is(x.stored(1, 0), 0);
        Scenes.lent(x, 0, 1, 0, 8, 9);
        Scenes.text(x, 1, "100");
        due.is(x.back(0), 99);
        due.is(x.stored(0, 0), 99);

        due.at("the LOAN is gone, those with greater numbers go one down");
        for (int gone = 0; gone < 10; gone++) {
            x = Scenes.with(2, 5);
            for (int i = 0; i < 10; i++) {
                Scenes.lent(x, 0, 1, 0, 10 + i, 20 + i);
            }
            x.back(gone);
            due.is(x.count(2), 9);
            due.is(x.ofLoan(9, 0), BEYOND);
            for (int i = 0; i < 9; i++) {
                int was = i < gone ? i : i + 1;
                due.is(x.ofLoan(i, 3), 10 + was);
                due.is(x.ofLoan(i, 4), 20 + was);
            }
        }
    }

    private static void aDay() {
        due.at("DAY is 1 more, with nothing there, too");
        AshLoans x = new AshLoans();
        due.is(x.days(1), 0);
        due.is(x.count(3), 1);

        due.at("its HEDGE comes to its POTTER (if there is one; held)");
        x = Scenes.with(3, 5, 6, 7);
        x.hedge(0, 0, 9);
        x.hedge(0, 1, 3);
        x.hedge(1, 0, 9);
        x.hedge(1, 1, 2);
        x.store(2, 1, 990);
        x.store(0, 2, 999);
        due.is(x.days(1), 0);
        due.is(x.ofAsh(0, 4), 0);
        due.is(x.stored(2, 1), 999);
        due.is(x.stored(0, 2), 999);
        due.is(x.days(1), 0);
        due.is(x.stored(2, 1), 999);
        due.is(x.potter(), 3);
        due.is(x.days(1), 0);
        due.is(x.stored(3, 0), 9);

        due.at("those that are DUE then: not a DAY ahead");
        x = Scenes.with(2, 5);
        Scenes.lent(x, 0, 1, 0, 4, 1);
        Scenes.lent(x, 0, 1, 0, 4, 2);
        Scenes.lent(x, 0, 1, 0, 4, 60);
        due.is(x.days(1), 2);
        due.is(x.days(1), 1);
        due.is(x.days(57), 1);
        due.is(x.days(1), 0);
        due.is(x.count(3), 60);

        due.at("if who has it has as many BUSHELS, it is GIVEN BACK");
        x = Scenes.with(2, 5);
        Scenes.lent(x, 0, 1, 0, 4, 1);
        due.is(x.days(1), 0);
        due.is(x.ofPotter(1, 1), 0);
        due.is(x.stored(1, 0), 0);
        due.is(x.stored(0, 0), 3);

        due.at("else BROKEN of that one are 1 more, and the LOAN is gone likewise");
        x = Scenes.with(2, 5, 5);
        Scenes.lent(x, 0, 1, 0, 4, 1);
        Scenes.lent(x, 0, 1, 1, 6, 2);
        x.store(1, 0, 3);
        due.is(x.days(1), 1);
        due.is(x.ofPotter(1, 1), 1);
        due.is(x.ofPotter(0, 1), 0);
        due.is(x.stored(1, 0), 3);
        due.is(x.stored(0, 0), 0);
        due.is(x.ofLoan(0, 3), 6);
        dayInOrder();
    }

    private static void dayInOrder() {
        due.at("then of each ASH its HEDGE, then of LOANS");
        AshLoans x = Scenes.with(2, 5);
        Scenes.lent(x, 0, 1, 0, 4, 1);
        x.store(1, 0, 3);
        x.hedge(0, 0, 1);
        x.hedge(0, 1, 1);
        due.is(x.days(1), 0);
        due.is(x.count(5), 0);
        due.is(x.stored(1, 0), 0);

        due.at("then of LOANS by numbers: the lesser one takes what is there");
        x = Scenes.with(3, 5);
        Scenes.lent(x, 0, 1, 0, 4, 1);
        Scenes.lent(x, 2, 1, 0, 5, 1);
        x.store(1, 0, 8);
        due.is(x.days(1), 0);
        due.is(x.stored(0, 0), 3);
        due.is(x.stored(2, 0), 0);
        due.is(x.stored(1, 0), 4);
        due.is(x.ofPotter(1, 1), 1);

        due.at("then of LOANS by numbers: all ten on one DAY, given back and broken by turns");
        x = Scenes.with(2, 5, 5);
        for (int i = 0; i < 10; i++) {
            Scenes.lent(x, 0, 1, i % 2, 1, 3);
        }
        x.store(1, 1, 0);
        due.is(x.days(2), 10);
        due.is(x.days(1), 0);
        due.is(x.ofPotter(1, 1), 5);
        due.is(x.stored(0, 0), 5);
        due.is(x.stored(0, 1), 0);

        due.at("BACK's d is the DAY on which it is GIVEN BACK");
        x = Scenes.with(2, 5);
        Scenes.text(x, 1, "d");
        Scenes.lent(x, 0, 1, 0, 1, 1);
        Scenes.lent(x, 0, 1, 0, 1, 9);
        x.days(1);
        due.is(x.stored(0, 0), 1);
        due.is(x.back(0), 1);
        Scenes.lent(x, 0, 1, 0, 1, 60);
        x.store(0, 0, 0);
        x.days(60);
        due.is(x.stored(0, 0), 61);
    }

    // ---- block 2

    private static void tape() {
        due.at("THE TAPE (bytes, at most 50)");
        AshLoans x = new AshLoans();
        String fifty = "(((((9999+9999-9999*1/1%9999)|0)&1)=1)+2)*m+k+h+55";
        for (int i = 0; i < 50; i++) {
            due.is(x.feed(fifty.charAt(i), 1), i + 1);
        }
        due.is(x.feed('5', 1), FULL);
        due.is(x.count(6), 50);
        due.is(x.text(0), 1);
        due.is(x.law(0, 4, 5, 6), 3 * 4 + 5 + 6 + 55);

        due.at("bytes are no ints below 0, nor are they cut to 7 bits");
        for (int more : new int[] {128, 256 - 'n', 'n' + 128, 255}) {
            x = new AshLoans();
            due.is(x.feed(more, 1), 1);
            due.is(x.text(1), -10);
            due.is(x.feed('n' + (more << 8), 2), 2);
            due.is(x.text(1), -11);
        }

        due.at("THE TAPE is empty: no TEXT");
        due.is(new AshLoans().text(0), -10);
        due.is(new AshLoans().text(1), -10);
    }

    private static void parts() {
        due.at("a NUMBER of 1 to 4 digits");
        due.is(Scenes.back("0"), 0);
        due.is(Scenes.back("9"), 9);
        due.is(Scenes.back("0099"), 99);
        due.is(Scenes.back("9999-9990"), 9);
        due.is(Scenes.back("12345"), -14);
        due.is(Scenes.back("n-12345"), -16);
        due.is(Scenes.back("00000"), -14);

        due.at("a NAME of the USE alone");
        AshLoans x = new AshLoans();
        for (char name : "mkh".toCharArray()) {
            due.is(Scenes.text(x, 0, "" + name), 1);
            due.is(Scenes.text(x, 1, "" + name), name == 'm' ? 1 : -10);
        }
        for (char name : "nmd".toCharArray()) {
            due.is(Scenes.text(x, 1, "" + name), 1);
            due.is(Scenes.text(x, 0, "" + name), name == 'm' ? 1 : -10);
        }
        due.is(Scenes.back("nm"), -11);
        due.is(Scenes.back("N"), -10);

        due.at("No blanks");
        due.is(Scenes.back(" n"), -10);
        due.is(Scenes.back("n "), -11);
        due.is(Scenes.back("n +m"), -11);
        due.is(Scenes.back("n+ m"), -12);
        due.is(Scenes.back("1 2"), -11);

        due.at("B: S, or S < S, S = S, S > S: one at most");
        due.is(Scenes.back("1<2"), 1);
        due.is(Scenes.back("1<2<3"), -13);
        due.is(Scenes.back("1=1=1"), -13);
        due.is(Scenes.back("2>1>0"), -13);
        due.is(Scenes.back("1<2=1"), -13);
        due.is(Scenes.back("(1<2)=1"), 1);
        due.is(Scenes.back("1<2&2>1=1"), -17);
        due.is(Scenes.back("1<2&2>1|3=3"), 1);

        due.at("T: A { | A } and the like: as many as the tape holds");
        due.is(Scenes.back("0|0|0|0|0|0|0|0|0|0|0|0|0|0|0|0|0|0|0|0|0|0|0|0|7"), 1);
        due.is(Scenes.back("1&1&1&1&1&1&1&1&1&1&1&1&1&1&1&1&1&1&1&1&1&1&1&1&0"), 0);
        due.is(Scenes.back("1+1+1+1+1+1+1+1+1+1+1+1+1+1+1+1+1+1+1+1+1+1+1+1+1"), 25);
        due.is(Scenes.back("99-1-1-1-1-1-1-1-1-1-1-1-1-1-1-1-1-1-1-1-1-1-1-1"), 76);
        due.is(Scenes.back("2*1*1*1*1*1*1*1*1*1*1*1*1*1*1*1*1*1*1*1*1*1*1*1*9"), 18);
    }

    private static void open() {
        due.at("At most 5 of ! and ( are open at once: five are");
        due.is(Scenes.back("(((((n)))))"), 7);
        due.is(Scenes.back("!!!!!n"), 0);
        due.is(Scenes.back("!(!(!n))"), 0);
        due.is(Scenes.back("(((!!n)))"), 1);
        due.at("At most 5 of ! and ( are open at once: six are not");
        due.is(Scenes.back("((((((n))))))"), -15);
        due.is(Scenes.back("!!!!!!n"), -15);
        due.is(Scenes.back("(((((!n)))))"), -15);
        due.is(Scenes.back("!!!!!(n)"), -15);
        due.is(Scenes.back("1+(((((1+!n)))))"), -19);
        due.at("At most 5 of ! and ( are open at once: those that are closed don't count");
        due.is(Scenes.back("(((((n)))))+(((((n)))))"), 14);
        due.is(Scenes.back("!n+!n+!n+!n+!n+!n+!n+6"), 6);
        due.is(Scenes.back("!!!!!n+!!!!!n+!0"), 1);
        due.is(Scenes.back("((((!n+!n+(n)))))"), 7);
        due.is(Scenes.back("!(!(!n)+!n)"), 0);
    }

    private static void ints() {
        due.at("Ints that wrap");
        AshLoans x = new AshLoans();
        Scenes.text(x, 0, "m+k=h");
        due.is(x.law(0, MAX, 1, MIN), 1);
        due.is(x.law(0, MIN, -1, MAX), 1);
        Scenes.text(x, 0, "m-k=h");
        due.is(x.law(0, MIN, 1, MAX), 1);
        due.is(x.law(0, 0, MIN, MIN), 1);
        Scenes.text(x, 0, "m*k=h");
        due.is(x.law(0, 65536, 65536, 0), 1);
        due.is(x.law(0, MIN, -1, MIN), 1);
        due.is(x.law(0, MAX, MAX, 1), 1);
        Scenes.text(x, 0, "9999*9999*9999<0");
        due.is(x.law(0, 0, 0, 0), 1);
        Scenes.text(x, 0, "m/k=h");
        due.is(x.law(0, MIN, -1, MIN), 1);
        Scenes.text(x, 0, "m%k=h");
        due.is(x.law(0, MIN, -1, 0), 1);
        Scenes.text(x, 0, "m<k");
        due.is(x.law(0, MIN, MAX, 0), 1);
        due.is(x.law(0, MAX, MIN, 0), 0);

        due.at("/ cut, % the rest that it leaves");
        Scenes.text(x, 0, "m/k+9");
        due.is(x.law(0, -7, 2, 0), 6);
        due.is(x.law(0, 7, -2, 0), 6);
        due.is(x.law(0, -7, -2, 0), 12);
        Scenes.text(x, 0, "m%k+9");
        due.is(x.law(0, -7, 2, 0), 8);
        due.is(x.law(0, 7, -2, 0), 10);
        due.is(x.law(0, -7, -2, 0), 8);
        due.is(x.law(0, 8, 2, 0), 9);

        due.at("both by 0 are 0");
        Scenes.text(x, 0, "m/k+9");
        due.is(x.law(0, 7, 0, 0), 9);
        due.is(x.law(0, MIN, 0, 0), 9);
        due.is(x.law(0, 0, 0, 0), 9);
        Scenes.text(x, 0, "m%k+9");
        due.is(x.law(0, 7, 0, 0), 9);
        due.is(x.law(0, MIN, 0, 0), 9);

        due.at("| & < = > ! are 1 or 0, what is not 0 being true");
        due.is(Scenes.back("(0-3)|0"), 1);
        due.is(Scenes.back("0|(0-3)"), 1);
        due.is(Scenes.back("0|0"), 0);
        due.is(Scenes.back("(0-3)&7"), 1);
        due.is(Scenes.back("1&2"), 1);
        due.is(Scenes.back("0&7"), 0);
        due.is(Scenes.back("7&0"), 0);
        due.is(Scenes.back("!(0-3)"), 0);
        due.is(Scenes.back("!0"), 1);
        due.is(Scenes.back("3<3"), 0);
        due.is(Scenes.back("2<3"), 1);
        due.is(Scenes.back("3>3"), 0);
        due.is(Scenes.back("3>2"), 1);
        due.is(Scenes.back("3=3"), 1);
        due.is(Scenes.back("3=2"), 0);

        due.at("all is worked out");
        due.is(Scenes.back("1|1/0"), 1);
        due.is(Scenes.back("0&1%0"), 0);
    }

    private static void faults() {
        due.at("FAULT: the place of the first byte with which no TEXT goes on");
        due.is(Scenes.back(")"), -10);
        due.is(Scenes.back("n)"), -11);
        due.is(Scenes.back("()"), -11);
        due.is(Scenes.back("n+-m"), -12);
        due.is(Scenes.back("n!m"), -11);
        due.is(Scenes.back("n(m)"), -11);
        due.is(Scenes.back("(n)m"), -13);
        due.is(Scenes.back("1n"), -11);
        due.is(Scenes.back("n?("), -11);
        due.is(Scenes.back("n+n+n+n+n+n+n+n+n+n+n+n+n+n+n+n+n+n+n+n+n+n+n+n+nn"), -59);
        due.at("FAULT: how many there are, if it ends too early");
        due.is(Scenes.back(""), -10);
        due.is(Scenes.back("n+"), -12);
        due.is(Scenes.back("!"), -11);
        due.is(Scenes.back("("), -11);
        due.is(Scenes.back("(n"), -12);
        due.is(Scenes.back("((n)"), -14);
        due.is(Scenes.back("n<"), -12);
        due.is(Scenes.back("((((("), -15);
        due.is(Scenes.back("n+n+n+n+n+n+n+n+n+n+n+n+n+n+n+n+n+n+n+n+n+n+n+n+n+"), -60);
    }

    private static void uses() {
        due.at("COLOUR: held within 0 to 99");
        AshLoans x = new AshLoans();
        Scenes.text(x, 0, "m");
        int[][] held = {{-1, 0}, {0, 0}, {1, 1}, {98, 98}, {99, 99}, {100, 99}, {MAX, 99}, {MIN, 0}};
        for (int[] one : held) {
            due.is(x.law(0, one[0], 0, 0), one[1]);
        }
        due.at("BACK: held within 0 to 99");
        Scenes.text(x, 1, "n");
        for (int[] one : held) {
            due.is(x.law(1, one[0], 0, 0), one[1]);
        }
        due.at("COLOUR without a TEXT m+h");
        x = new AshLoans();
        due.is(x.law(0, 0, 9, 0), 0);
        due.is(x.law(0, 9, 9, 9), 18);
        due.is(x.law(0, 90, 9, 9), 99);
        due.at("BACK without a TEXT n-n/4");
        int[] backs = {0, 1, 2, 3, 3, 4, 5, 6, 6};
        for (int n = 0; n < backs.length; n++) {
            due.is(x.law(1, n, 9, 9), backs[n]);
        }
        due.is(x.law(1, 98, 9, 9), 74);
        due.is(x.law(1, 99, 9, 9), 75);
    }

    // ---- block 3

    private static void behind() {
        due.at("All this is only thought, DAY beyond 9999, too");
        AshLoans x = Scenes.after(166, Scenes.with(3, 5));
        x.days(39);
        Scenes.text(x, 1, "d-9999-1");
        Scenes.lent(x, 0, 1, 0, 8, 60);
        Scenes.lent(x, 0, 1, 0, 8, 1);
        x.store(1, 0, 8);
        x.hedge(0, 0, 1);
        x.hedge(0, 1, 2);
        due.is(x.then(1, 0, 0), 0);
        due.is(x.then(60, 2, 0), 60);
        due.is(x.then(60, 0, 0), 0);
        due.is(x.breaks(1), 60);
        x.store(1, 0, 16);
        due.is(x.breaks(1), NONE);
        due.is(x.then(59, 0, 0), 0);
        due.is(x.then(60, 0, 0), 59);
        x.tell(1);
        x.tell(1);
        due.is(x.check(), 0);
        x.store(0, 0, 8);
        due.is(x.lender(2, 0, 8, 20), 0);
        due.is(x.count(3), 9999);
        due.is(x.count(2), 2);
        due.is(x.count(5), 0);
        due.is(x.stored(2, 0), 0);

        due.at("BEHIND n DAYS (0 to 60)");
        x = Scenes.with(2, 5);
        x.hedge(0, 0, 1);
        due.is(x.then(-1, 0, 0), BEYOND);
        due.is(x.then(0, 0, 0), 0);
        due.is(x.then(1, 0, 0), 1);
        due.is(x.then(60, 0, 0), 60);
        due.is(x.then(61, 0, 0), BEYOND);
        x.store(0, 0, 990);
        due.is(x.then(9, 0, 0), 999);
        due.is(x.then(10, 0, 0), 999);
    }

    private static void breaks() {
        due.at("BREAKS: behind how many DAYS (0 to 60): the first and the last");
        AshLoans x = Scenes.with(3, 5);
        Scenes.lent(x, 0, 1, 0, 5, 1);
        x.store(1, 0, 4);
        due.is(x.breaks(1), 1);
        x = Scenes.with(3, 5);
        Scenes.lent(x, 0, 1, 0, 5, 60);
        x.store(1, 0, 4);
        due.is(x.breaks(1), 60);
        x.store(1, 0, 5);
        due.is(x.breaks(1), NONE);
        due.is(x.breaks(0), NONE);

        due.at("BREAKS: more BROKEN than now");
        x = Scenes.with(3, 5);
        Scenes.lent(x, 0, 1, 0, 5, 1);
        x.store(1, 0, 0);
        x.days(1);
        due.is(x.ofPotter(1, 1), 1);
        due.is(x.breaks(1), NONE);
        Scenes.lent(x, 0, 1, 0, 5, 7);
        x.store(1, 0, 0);
        due.is(x.breaks(1), 7);

        due.at("BREAKS: of that POTTER, first");
        x = Scenes.with(3, 5);
        Scenes.lent(x, 0, 2, 0, 5, 2);
        Scenes.lent(x, 0, 1, 0, 5, 9);
        Scenes.lent(x, 0, 1, 0, 5, 4);
        x.store(1, 0, 0);
        x.store(2, 0, 0);
        due.is(x.breaks(1), 4);
        due.is(x.breaks(2), 2);

        due.at("BREAKS: never more than 99 BROKEN");
        x = Scenes.with(2, 5);
        for (int tens = 0; tens < 10; tens++) {
            breakLoans(x, 10);
        }
        Scenes.lent(x, 0, 1, 0, 1, 1);
        x.store(1, 0, 0);
        due.is(x.ofPotter(1, 1), 99);
        due.is(x.breaks(1), NONE);
    }

    private static void recipes() {
        due.at("RECIPE: of what there is");
        AshLoans x = Scenes.with(1, 1);
        Scenes.text(x, 0, "m");
        due.is(x.recipe(0, 1, 0), NONE);
        x.store(0, 0, 1);
        due.is(x.recipe(0, 1, 0), 1);
        due.is(x.recipe(0, 2, 0), NONE);
        x.store(0, 0, 2);
        due.is(x.recipe(0, 2, 0), 2);
        due.is(x.recipe(0, 3, 0), NONE);

        due.at("RECIPE: 3 BUSHELS of each at most");
        x.store(0, 0, 3);
        due.is(x.recipe(0, 3, 0), 3);
        x.store(0, 0, 999);
        due.is(x.recipe(0, 3, 0), 3);
        due.is(x.recipe(0, 4, 0), NONE);

        due.at("RECIPE: not FORBIDDEN");
        x = Scenes.with(1, 40, 10, 60);
        x.store(0, 0, 9);
        due.is(x.recipe(0, 5, 7), 1);
        due.is(x.recipe(0, 7, 8), NONE);
        x.store(0, 2, 9);
        due.is(x.recipe(0, 9, 0), NONE);
        due.is(x.recipe(0, 1, 0), 1);
        x.store(0, 1, 9);
        due.is(x.recipe(0, 7, 8), 30);

        due.at("RECIPE: of one BUSHEL at least");
        x = Scenes.with(1, 3);
        x.store(0, 0, 9);
        due.is(x.recipe(0, 0, 0), NONE);
        x.become(0, 0);
        due.is(x.recipe(0, 0, 0), 1);

        due.at("RECIPE: of fewest BUSHELS, though of a greater number");
        x = Scenes.with(1, 1, 1, 1, 1, 3);
        Scenes.text(x, 0, "m");
        for (int ash = 0; ash < 5; ash++) {
            x.store(0, ash, 3);
        }
        due.is(x.recipe(0, 3, 0), 10000);
        due.is(x.recipe(0, 9, 0), 30000);

        due.at("RECIPE: of several the least number");
        due.is(x.recipe(0, 1, 0), 1);
        due.is(x.recipe(0, 2, 0), 2);
        due.is(x.recipe(0, 4, 0), 10001);
        due.is(x.recipe(0, 5, 0), 10002);
        x.store(0, 0, 0);
        due.is(x.recipe(0, 1, 0), 10);
        x.store(0, 4, 0);
        due.is(x.recipe(0, 5, 0), 230);
        due.is(x.recipe(0, 0, 0), NONE);
        x.store(0, 0, 1);
        due.is(x.recipe(0, 0, 0), 3331);
    }

    private static void heatsAndOdds() {
        due.at("HEATS: those at which it gives it, as a set: the least and the greatest HEAT");
        AshLoans x = Scenes.with(0, 0);
        due.is(x.heats(1, 0), 1);
        due.is(x.heats(1, 9), 512);
        due.at("HEATS: none, all");
        Scenes.text(x, 0, "7");
        due.is(x.heats(1, 6), 0);
        due.is(x.heats(1, 7), 1023);
        due.at("HEATS: not FORBIDDEN");
        x = Scenes.with(0, 40, 60);
        Scenes.text(x, 0, "9-h");
        due.is(x.heats(1, 0), 255);
        due.is(x.heats(10, 0), 0);
        due.is(x.heats(10, 9), 0);

        due.at("ODDS: a fraction in lowest terms");
        x = Scenes.with(0, 0);
        int[][] lowest = {{0, 1}, {1, 10}, {1, 5}, {3, 10}, {2, 5}, {1, 2}, {3, 5}, {7, 10}, {4, 5}, {9, 10}, {1, 1}};
        for (int heats = 0; heats <= 10; heats++) {
            Scenes.text(x, 0, "(h<" + heats + ")*7");
            due.is(x.odds(1, 7, 0), lowest[heats][0]);
            due.is(x.odds(1, 7, 1), lowest[heats][1]);
        }
        due.at("ODDS: not FORBIDDEN");
        x = Scenes.with(0, 40, 60);
        Scenes.text(x, 0, "9-h");
        due.is(x.odds(1, 0, 0), 4);
        due.is(x.odds(1, 0, 1), 5);
        due.is(x.odds(10, 9, 0), 0);
        due.is(x.odds(10, 9, 1), 1);
    }

    private static void burnt() {
        due.at("BURNT: COLOURS at HEATS 0, 1, ..");
        AshLoans x = Scenes.with(0, 4, 5, 6);
        Scenes.row(x, 0, 8, 4);
        due.is(x.burnt(0), 1);
        Scenes.row(x, 0, 8, -1, 7);
        due.is(x.burnt(0), 4);
        Scenes.row(x, 0, 8, 4, 5, 6, 7, 8, 9, 0, 1, 2, 3);
        due.is(x.burnt(0), 1);
        Scenes.row(x, 0, 8, 4, 5, 6, 7, 8, 9, 0, 1, 2, 4);
        due.is(x.burnt(0), 0);

        due.at("BURNT: rest by 10, as of a MIX of one BUSHEL");
        x = Scenes.with(0, 5, 59);
        Scenes.row(x, 0, 8, -1, -1, -1, -1, -1, 0);
        due.is(x.burnt(0), 1);
        Scenes.row(x, 0, 32, -1, -1, -1, -1, -1, 10);
        due.is(x.burnt(0), 0);
        Scenes.text(x, 0, "0");
        Scenes.row(x, 0, 8, 1);
        due.is(x.burnt(0), 2);

        due.at("BURNT: a number below 0: not told");
        x = Scenes.with(0, 4, 5, 6);
        int[][] below = {{8, -1}, {8, -128}, {16, -1}, {16, -32768}, {32, -1}, {32, MIN}};
        for (int[] one : below) {
            Scenes.row(x, 0, one[0], one[1], 6);
            due.is(x.burnt(0), 2);
            Scenes.row(x, 0, one[0], one[1]);
            due.is(x.burnt(0), 7);
        }
        Scenes.row(x, 0, 8, 128, 6);
        due.is(x.burnt(0), 2);
        Scenes.row(x, 0, 16, 128, 6);
        due.is(x.burnt(0), 0);
        Scenes.row(x, 0, 16, 32768, 6);
        due.is(x.burnt(0), 2);
        Scenes.row(x, 0, 32, 32768, 6);
        due.is(x.burnt(0), 0);

        due.at("BURNT: no number, no ASH");
        x = new AshLoans();
        x.sheet(0, 8, 0);
        due.is(x.burnt(0), 0);
        x.ash(0);
        due.is(x.burnt(0), 1);
        Scenes.row(x, 0, 8, 5);
        due.is(x.burnt(0), 0);
        x = Scenes.with(0, 5, 5, 5, 5, 5);
        Scenes.row(x, 0, 8, 5);
        due.is(x.burnt(0), 31);

        due.at("BURNT: an ASH that may not be burnt there has its COLOUR, too");
        x = Scenes.with(0, 60, 40);
        Scenes.row(x, 0, 8, 9);
        due.is(x.burnt(0), 1);
        Scenes.row(x, 0, 8, -1, -1, -1, -1, -1, -1, -1, -1, 7, 9);
        due.is(x.burnt(0), 2);
    }

    private static void roundAndOwed() {
        due.at("ROUND: no POTTER, no LOAN, one way alone");
        due.is(new AshLoans().round(), 0);
        AshLoans x = Scenes.with(4, 5, 6);
        due.is(x.round(), 0);
        Scenes.lent(x, 0, 1, 0, 9, 9);
        due.is(x.round(), 0);
        due.at("ROUND: the lesser of what a has from b and b from a");
        Scenes.lent(x, 1, 0, 0, 8, 9);
        due.is(x.round(), 8);
        Scenes.lent(x, 1, 0, 0, 1, 9);
        due.is(x.round(), 9);
        Scenes.lent(x, 1, 0, 0, 1, 9);
        due.is(x.round(), 9);
        due.at("ROUND: LOANS of one ASH, between two POTTERS");
        x = Scenes.with(4, 5, 6);
        Scenes.lent(x, 0, 1, 0, 9, 9);
        Scenes.lent(x, 1, 0, 1, 9, 9);
        Scenes.lent(x, 1, 2, 0, 9, 9);
        Scenes.lent(x, 2, 0, 0, 9, 9);
        due.is(x.round(), 0);
        due.at("ROUND: all pairs and all ASHES, together");
        x = Scenes.with(4, 5, 5, 5, 5, 6);
        Scenes.lent(x, 0, 1, 0, 1, 9);
        Scenes.lent(x, 1, 0, 0, 1, 9);
        Scenes.lent(x, 2, 3, 4, 20, 9);
        Scenes.lent(x, 3, 2, 4, 30, 9);
        Scenes.lent(x, 3, 0, 4, 5, 9);
        Scenes.lent(x, 0, 3, 4, 4, 9);
        due.is(x.round(), 1 + 20 + 4);

        due.at("OWED: BUSHELS of all LOANS that others have of that one");
        x = Scenes.with(4, 5, 6);
        due.is(x.ofPotter(0, 3), 0);
        Scenes.lent(x, 0, 1, 0, 99, 9);
        Scenes.lent(x, 0, 2, 1, 1, 9);
        Scenes.lent(x, 1, 0, 0, 50, 9);
        due.is(x.ofPotter(0, 3), 100);
        due.is(x.ofPotter(1, 3), 50);
        due.is(x.ofPotter(3, 3), 0);
        x.back(0);
        due.is(x.ofPotter(0, 3), 1);
    }

    private static void lenders() {
        due.at("LENDER: till behind d DAYS (1 to 20)");
        AshLoans x = Scenes.with(2, 5);
        x.store(0, 0, 99);
        due.is(x.lender(1, 0, 1, 0), BEYOND);
        due.is(x.lender(1, 0, 1, 1), 0);
        due.is(x.lender(1, 0, 1, 20), 0);
        due.is(x.lender(1, 0, 1, 21), BEYOND);

        due.at("LENDER: of all others");
        due.is(x.lender(0, 0, 1, 1), NONE);

        due.at("LENDER: who could lend them now");
        x = Scenes.with(4, 5);
        x.store(2, 0, 10);
        x.store(3, 0, 11);
        due.is(x.lender(0, 0, 10, 5), 2);
        due.is(x.lender(0, 0, 11, 5), 3);
        due.is(x.lender(0, 0, 12, 5), NONE);
        x.store(0, 0, 989);
        due.is(x.lender(0, 0, 10, 5), 2);
        due.is(x.lender(0, 0, 11, 5), NONE);
        x.store(0, 0, 0);
        x.hedge(0, 0, 9);
        x.hedge(0, 1, 1);
        due.is(x.lender(0, 0, 12, 5), NONE);

        due.at("LENDER: by whose lending fewest are BROKEN behind 60 DAYS");
        x = Scenes.with(4, 5);
        Scenes.lent(x, 3, 0, 0, 10, 60);
        x.store(0, 0, 12);
        x.store(1, 0, 12);
        due.is(x.lender(2, 0, 10, 5), 0);
        Scenes.text(x, 1, "n-3");
        due.is(x.lender(2, 0, 10, 5), 1);

        due.at("LENDER: DUE then");
        x = Scenes.with(4, 5);
        Scenes.lent(x, 3, 0, 0, 10, 6);
        x.store(1, 0, 10);
        Scenes.text(x, 1, "n");
        due.is(x.lender(2, 0, 10, 5), 0);
        due.is(x.lender(2, 0, 10, 6), 1);
        due.is(x.lender(2, 0, 10, 7), 1);

        due.at("LENDER: of all POTTERS");
        x = Scenes.with(4, 5);
        x.store(0, 0, 5);
        x.store(1, 0, 5);
        Scenes.lent(x, 3, 0, 0, 1, 9);
        Scenes.lent(x, 3, 0, 0, 1, 10);
        x.store(0, 0, 5);
        Scenes.text(x, 1, "0");
        due.is(x.lender(2, 0, 5, 5), 1);
        Scenes.lent(x, 3, 1, 0, 5, 9);
        x.store(1, 0, 5);
        due.is(x.lender(2, 0, 5, 5), 1);
        x.store(0, 0, 7);
        due.is(x.lender(2, 0, 5, 5), 0);

        due.at("LENDER: of several the least");
        x = Scenes.with(4, 5);
        for (int potter = 0; potter < 4; potter++) {
            x.store(potter, 0, 50);
        }
        due.is(x.lender(0, 0, 50, 5), 1);
        due.is(x.lender(1, 0, 50, 5), 0);
        due.is(x.lender(3, 0, 50, 5), 0);
        due.is(x.count(2), 0);
    }

    private static void draws() {
        due.at("z is told (1 at first)");
        AshLoans x = new AshLoans();
        due.is(x.count(9), 1);

        due.at("if there are ASHES, two draws: else none");
        due.is(x.loose(2), 0);
        due.is(x.count(9), 1);
        due.is(x.count(3), 2);
        x.ash(0);
        due.is(x.loose(1), 0);
        due.is(x.count(9), (1103515245 + 12345) * 1103515245 + 12345);

        due.at("each makes it z * 1103515245 + 12345 (an int), and gives z >>> 8: z below 0, too");
        for (int seed : new int[] {MIN, -1, 0, 1, MAX, -1000000001}) {
            x = Scenes.with(1, 0, 0, 0, 0, 0);
            x.seed(seed);
            int first = seed * 1103515245 + 12345;
            int second = first * 1103515245 + 12345;
            int ash = (int) ((first & 0xFFFFFFFFL) / 256 % 5);
            int hedge = (int) ((second & 0xFFFFFFFFL) / 256 % 10);
            due.is(x.loose(1), 0);
            due.is(x.count(9), second);
            for (int i = 0; i < 5; i++) {
                due.is(x.ofAsh(i, 2), i == ash ? hedge : 0);
            }

            due.at("becomes the second one's rest by 10; then a DAY");
            due.is(x.stored(0, ash), hedge);
        }
    }

    private static void voices() {
        due.at("VOICES: ints that go round");
        AshLoans x = Scenes.with(0, 9, 9);
        due.is(x.voice(1, 0, MAX), MIN);
        due.is(x.voice(0, 1, MIN), 0);
        due.is(x.voice(0, 1, 1 << 30), MIN);
        due.is(x.voice(0, 2, MIN), MAX - 8);
        x.become(0, 19);
        due.is(x.voice(0, 0, 1 << 30), -(1 << 30));
        x.become(0, 29);
        due.is(x.voice(0, 1, 1 << 30), MIN + 8);
        x.become(0, 21);
        due.is(x.voice(0, 1, 1 << 30), MIN);
        x.become(0, 22);
        due.is(x.voice(0, 1, (1 << 30) - 1), MAX);
        x.become(0, 39);
        due.is(x.voice(0, 2, MIN + 9), MIN);
        x.become(0, 51);
        due.is(x.voice(0, 1, MAX), 0);
        x.become(0, 61);
        due.is(x.voice(0, 2, MIN), -MAX);

        due.at("THE TRACE: of the latest voice()");
        x = Scenes.with(0, 43);
        x.voice(0, 3, 0);
        due.is(x.count(8), 8);
        x.voice(0, 0, 0);
        due.is(x.count(8), 2);
        due.is(x.trace(0), 20);
        due.is(x.trace(1), 10);
        due.is(x.trace(2), NONE);
    }

    // ---- block 4

    private static void sheets() {
        due.at("SHEETS 0 .. 3 are missing (as at first)");
        AshLoans x = new AshLoans();
        due.is(x.judge(-1), BEYOND);
        for (int sheet = 0; sheet < 4; sheet++) {
            due.is(x.judge(sheet), NONE);
        }
        due.is(x.judge(4), BEYOND);

        due.at("rows of 8, 16, 32 bits: what they hold");
        x = Scenes.with(0, 0);
        int[][] rows = {{8, 256}, {16, 65536}};
        for (int[] one : rows) {
            Scenes.row(x, 0, one[0], one[1] + 9);
            due.is(x.hedges(0), 1);
            Scenes.row(x, 0, one[0], one[1] / 2);
            due.is(x.burnt(0), 1);
            Scenes.row(x, 0, one[0], one[1] / 2 - 1);
            due.is(x.burnt(0), 0);
        }
        Scenes.row(x, 0, 32, 65536 + 9);
        due.is(x.hedges(0), 0);
        Scenes.row(x, 0, 32, MIN);
        due.is(x.burnt(0), 1);
        Scenes.row(x, 0, 32, MAX);
        due.is(x.burnt(0), 0);

        due.at("at most 40 numbers");
        x = new AshLoans();
        for (int bits = 8; bits <= 32; bits *= 2) {
            due.is(x.sheet(1, bits, 41), BEYOND);
            due.is(x.sheet(1, bits, 40), 1);
            due.is(x.put(1, 39, 1), 1);
            due.is(x.put(1, 40, 1), BEYOND);
            due.is(x.sheet(1, bits, 0), 1);
            due.is(x.put(1, 0, 1), BEYOND);
        }
    }
}
