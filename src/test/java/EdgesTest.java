import java.util.Arrays;

/**
 * The edges that each promise names: for every number that an act takes the least and the greatest one that will do,
 * and those next to them; then the promise's own sentences (empty, full, refused), each on objects of its own.
 */
public final class EdgesTest {
    private static final int BEYOND = Due.BEYOND;
    private static final int NONE = Due.NONE;
    private static final int STATE = Due.STATE;
    private static final int FULL = Due.FULL;
    private static final int KIND = Due.KIND;
    private static final int MIN = Integer.MIN_VALUE;
    private static final int MAX = Integer.MAX_VALUE;
    private static final Due due = new Due();

    public static void main(String[] args) {
        ranges();
        anyNumbers();
        ashes();
        potters();
        texts();
        lending();
        givingBack();
        firing();
        passing();
        seeing();
        thinking();
        voices();
        sheets();
        moves();
        readSheets();
        images();
        telling();
        due.end();
    }

    // ---- what an act takes

    /** 3 POTTERS, 2 ASHES, 3 LOANS, THE TRACE of 2, SHEETS of 10 numbers. */
    private static AshLoans scene() {
        AshLoans x = Scenes.with(3, 5, 16);
        for (int potter = 0; potter < 3; potter++) {
            x.store(potter, 0, 500);
            x.store(potter, 1, 400);
        }
        x.lend(0, 1, 0, 5, 9);
        x.lend(1, 2, 1, 6, 8);
        x.lend(2, 0, 0, 7, 7);
        x.voice(0, 1, 1);
        for (int sheet = 0; sheet < 4; sheet++) {
            x.sheet(sheet, 8, 10);
        }
        return x;
    }

    private static void ranges() {
        range("ash", 0, 0, 69, 0);
        range("ofAsh", 0, 0, 1, 0, 0);
        range("ofAsh", 1, 0, 4, 0, 0);
        range("hedge", 0, 0, 1, 0, 0, 0);
        range("hedge", 1, 0, 1, 0, 0, 0);
        range("hedge", 2, 0, 9, 0, 0, 0);
        range("hedge", 2, 0, 3, 0, 1, 0);
        range("become", 0, 0, 1, 0, 0);
        range("become", 1, 0, 69, 0, 0);
        range("as", 0, 0, 1, 0, 0);
        range("as", 1, 0, 6, 0, 0);
        range("ofPotter", 0, 0, 2, 0, 0);
        range("ofPotter", 1, 0, 3, 0, 0);
        range("store", 0, 0, 2, 0, 0, 5);
        range("store", 1, 0, 1, 0, 0, 5);
        range("store", 2, 0, 999, 0, 0, 5);
        range("stored", 0, 0, 2, 0, 0);
        range("stored", 1, 0, 1, 0, 0);
        range("feed", 1, 1, 8, 'n', 1);
        range("text", 0, 0, 1, 0);
        range("law", 0, 0, 1, 0, 0, 0, 0);
        range("lend", 0, 0, 2, 0, 1, 0, 1, 1);
        range("lend", 1, 0, 2, 1, 0, 0, 1, 1);
        range("lend", 2, 0, 1, 0, 1, 0, 1, 1);
        range("lend", 3, 1, 99, 0, 1, 0, 1, 1);
        range("lend", 4, 1, 60, 0, 1, 0, 1, 1);
        range("ofLoan", 0, 0, 2, 0, 0);
        range("ofLoan", 1, 0, 4, 0, 0);
        range("back", 0, 0, 2, 0);
        range("fire", 0, 0, 2, 0, 1, 0);
        range("fire", 1, 0, 99, 0, 1, 0);
        range("fire", 2, 0, 9, 0, 1, 0);
        range("days", 0, 1, 60, 1);
        range("loose", 0, 1, 40, 1);
        range("colour", 0, 0, 99, 1, 0);
        range("colour", 1, 0, 9, 1, 0);
        range("then", 0, 0, 60, 0, 0, 0);
        range("then", 1, 0, 2, 0, 0, 0);
        range("then", 2, -1, 1, 0, 0, 0);
        range("breaks", 0, 0, 2, 0);
        range("recipe", 0, 0, 2, 0, 0, 0);
        range("recipe", 1, 0, 9, 0, 0, 0);
        range("recipe", 2, 0, 9, 0, 0, 0);
        range("heats", 0, 0, 99, 1, 0);
        range("heats", 1, 0, 9, 1, 0);
        range("burnt", 0, 0, 3, 0);
        range("lender", 0, 0, 2, 0, 0, 1, 1);
        range("lender", 1, 0, 1, 0, 0, 1, 1);
        range("lender", 2, 1, 99, 0, 0, 1, 1);
        range("lender", 3, 1, 20, 0, 0, 1, 1);
        range("odds", 0, 0, 99, 1, 0, 0);
        range("odds", 1, 0, 9, 1, 0, 0);
        range("odds", 2, 0, 1, 1, 0, 0);
        range("voice", 0, 0, 1, 0, 0, 0);
        range("voice", 1, 0, 3, 0, 0, 0);
        range("sheet", 0, 0, 3, 0, 8, 1);
        range("put", 0, 0, 3, 0, 0, 0);
        range("put", 1, 0, 9, 0, 0, 0);
        range("move", 0, 0, 3, 0, 0, 1, 0, 3);
        range("move", 1, 0, 7, 0, 0, 1, 0, 3);
        range("move", 2, 0, 3, 0, 0, 1, 0, 3);
        range("move", 3, 0, 7, 0, 0, 1, 0, 3);
        range("move", 4, 0, 10, 0, 0, 1, 0, 3);
        range("hedges", 0, 0, 3, 0);
        range("judge", 0, 0, 3, 0);
        range("count", 0, 0, 9, 0);
        range("told", 0, 1, 5, 1);
    }

    /** Of the numbers that an act takes (that will do), the one at a place may be least to most, and no other. */
    private static void range(String act, int place, int least, int most, int... numbers) {
        for (int v : new int[] {least, most}) {
            due.at(act + ": number " + place + " is " + v + ", which will do");
            AshLoans x = scene();
            due.is(call(x, act, place, v, numbers) == BEYOND ? 1 : 0, 0);
            due.is(x.told(1), 0);
        }
        for (int v : new int[] {least - 1, most + 1, MIN, MAX}) {
            due.at(act + ": number " + place + " is " + v + ", which won't do");
            AshLoans x = scene();
            due.is(call(x, act, place, v, numbers), BEYOND);
            due.is(x.told(1), 1);
        }
    }

    private static int call(AshLoans x, String act, int place, int v, int[] numbers) {
        int[] a = Arrays.copyOf(numbers, 5);
        a[place] = v;
        int at = Arrays.asList(Calls.NAMES).indexOf(act);
        return Calls.call(x, at, a[0], a[0], a[1], a[2], a[3], a[4]);
    }

    /** Numbers that the document leaves free are taken whatever they are. */
    private static void anyNumbers() {
        for (int v : new int[] {MIN, -1000000001, -1, 0, 1, MAX}) {
            AshLoans x = scene();
            due.at("seed, tell, put, voice, law: any number");
            due.is(x.seed(v), 1);
            due.is(x.seed(1), v);
            due.is(x.tell(v), 1);
            due.is(x.put(0, 0, v), 1);
            due.is(x.voice(0, 0, v), v);
            due.is(x.law(0, v, v, 0), Math.min(99, Math.max(0, v)));
            due.is(x.law(1, 0, v, v), 0);
            due.is(x.sheet(0, 0, v), 1);
            for (int k = 1; k <= 5; k++) {
                due.is(x.told(k), 0);
            }
        }
    }

    // ---- promises 1 to 10

    private static void ashes() {
        due.at("promise 1: no ASHES, POTTERS, LOANS: each asked for is BEYOND");
        AshLoans x = new AshLoans();
        due.is(x.ofAsh(0, 0), BEYOND);
        due.is(x.hedge(0, 0, 0), BEYOND);
        due.is(x.become(0, 0), BEYOND);
        due.is(x.as(0, 0), BEYOND);
        due.is(x.ofPotter(0, 0), BEYOND);
        due.is(x.store(0, 0, 0), BEYOND);
        due.is(x.stored(0, 0), BEYOND);
        due.is(x.lend(0, 1, 0, 1, 1), BEYOND);
        due.is(x.ofLoan(0, 0), BEYOND);
        due.is(x.back(0), BEYOND);
        due.is(x.fire(0, 0, 0), BEYOND);
        due.is(x.colour(1, 0), BEYOND);
        due.is(x.then(0, 0, -1), BEYOND);
        due.is(x.breaks(0), BEYOND);
        due.is(x.recipe(0, 0, 0), BEYOND);
        due.is(x.heats(1, 0), BEYOND);
        due.is(x.lender(0, 0, 1, 1), BEYOND);
        due.is(x.odds(1, 0, 0), BEYOND);
        due.is(x.voice(0, 0, 0), BEYOND);
        due.is(x.told(1), 19);
        due.at("promise 1: all as at first: what needs none of them answers");
        x = new AshLoans();
        due.is(x.colour(0, 0), 0);
        due.is(x.heats(0, 0), 1023);
        due.is(x.odds(0, 0, 0), 1);
        due.is(x.round(), 0);
        due.is(x.check(), 0);
        due.is(x.days(60), 0);
        due.is(x.loose(40), 0);
        due.is(x.image(), 1);
        due.is(x.restore(), 100);

        due.at("promise 2: FULL: a sixth ASH of any KIND");
        for (int km : new int[] {0, 69}) {
            x = Scenes.with(0, 1, 2, 3, 4, 5);
            due.is(x.ash(km), FULL);
            due.is(x.told(4), 1);
        }
        due.at("promise 2: BEYOND ahead of FULL");
        due.is(x.ash(70), BEYOND);
        due.is(x.ash(-1), BEYOND);

        due.at("promise 3: BUSHELS of all POTTERS together: none, all that there can be");
        x = Scenes.with(0, 5);
        due.is(x.ofAsh(0, 4), 0);
        x = Scenes.with(4, 5, 6);
        due.is(x.ofAsh(0, 4), 0);
        for (int potter = 0; potter < 4; potter++) {
            x.store(potter, 0, 999);
        }
        due.is(x.ofAsh(0, 4), 3996);
        due.is(x.ofAsh(1, 4), 0);

        due.at("promise 4: to which POTTER (1; 0 to 3, whether there or not)");
        x = Scenes.with(0, 5);
        for (int potter = 0; potter < 4; potter++) {
            due.is(x.hedge(0, 1, potter), Math.max(0, potter - 1));
        }
        due.is(x.hedge(0, 1, 4), BEYOND);
        due.is(x.hedge(0, 1, 9), BEYOND);
        due.is(x.ofAsh(0, 3), 3);

        due.at("promise 5: HEDGE, its POTTER and BUSHELS stay");
        x = Scenes.with(1, 69);
        x.hedge(0, 0, 9);
        x.hedge(0, 1, 3);
        x.store(0, 0, 999);
        due.is(x.become(0, 0), 6);
        due.is(x.become(0, 69), 0);
        due.is(x.ofAsh(0, 2), 9);
        due.is(x.ofAsh(0, 3), 3);
        due.is(x.ofAsh(0, 4), 999);

        due.at("promise 6: KIND: it isn't of that KIND, nor of one under it; BEYOND ahead of it");
        x = Scenes.with(0, 9);
        due.is(x.as(0, 0), 9);
        for (int kind = 1; kind < 7; kind++) {
            due.is(x.as(0, kind), KIND);
        }
        due.is(x.as(0, 7), BEYOND);
        due.is(x.as(1, 6), BEYOND);
    }

    private static void potters() {
        due.at("promise 7: FULL: a fifth POTTER");
        AshLoans x = Scenes.with(4);
        due.is(x.potter(), FULL);
        due.is(x.potter(), FULL);
        due.is(x.count(1), 4);

        due.at("promise 8: how many LOANS one has: none, all ten");
        x = Scenes.with(2, 5);
        due.is(x.ofPotter(1, 2), 0);
        for (int i = 1; i <= 10; i++) {
            Scenes.lent(x, 0, 1, 0, 99, 9);
            due.is(x.ofPotter(1, 2), i);
        }
        due.is(x.ofPotter(0, 2), 0);
        due.at("promise 8: OWED: nothing, all that there can be");
        due.is(x.ofPotter(1, 3), 0);
        due.is(x.ofPotter(0, 3), 990);

        due.at("promise 9: BUSHELS become v: none of them, the most of them, of that one alone");
        x = Scenes.with(2, 5, 6);
        due.is(x.store(1, 1, 999), 0);
        due.is(x.store(1, 1, 1000), BEYOND);
        due.is(x.stored(1, 1), 999);
        due.is(x.store(1, 1, 0), 999);
        due.is(x.store(1, 1, -1), BEYOND);
        due.is(x.stored(1, 1), 0);
        due.is(x.ofAsh(0, 4), 0);

        due.at("promise 10: BUSHELS of an ASH of a POTTER, though either is missing");
        x = Scenes.with(1);
        due.is(x.stored(0, 0), BEYOND);
        x = Scenes.with(0, 5);
        due.is(x.stored(0, 0), BEYOND);
        x.potter();
        due.is(x.stored(0, 0), 0);
    }

    // ---- promises 11 to 13

    private static void texts() {
        due.at("promise 11: the n lowest bytes, the lowest first: one, and all eight");
        AshLoans x = new AshLoans();
        due.is(x.feed(0x2A2A2A2A2A2A2A6DL, 1), 1);
        due.is(x.text(0), 1);
        due.is(x.law(0, 7, 0, 0), 7);
        due.is(x.feed(0x352B342A332B322AL, 8), 8);
        due.is(x.text(0), -10);
        due.is(x.feed(0x352B342A332B3231L, 8), 8);
        due.is(x.text(0), 1);
        due.is(x.law(0, 0, 0, 0), 12 + 3 * 4 + 5);
        due.is(x.feed(0xFF2B342A332B3231L, 8), 8);
        due.is(x.text(0), -17);
        due.is(x.feed(-1L, 8), 8);
        due.is(x.text(0), -10);

        due.at("promise 11: FULL: just when they don't go on");
        for (int n = 1; n <= 8; n++) {
            x = new AshLoans();
            for (int i = 0; i < 50 - n; i++) {
                x.feed('!', 1);
            }
            due.is(x.count(6), 50 - n);
            if (n < 8) {
                due.is(x.feed(0x2121212121212121L, n + 1), FULL);
            }
            due.is(x.count(6), 50 - n);
            due.is(x.feed(0x2121212121212121L, n), 50);
            due.is(x.feed(0x2121212121212121L, 1), FULL);
            due.is(x.count(6), 50);
        }
        due.at("promise 11: BEYOND ahead of FULL");
        due.is(x.feed(0, 0), BEYOND);
        due.is(x.feed(0, 9), BEYOND);
        due.at("promise 11: THE TAPE that was FULL is empty behind text()");
        due.is(x.text(0), -15);
        due.is(x.feed('m', 1), 1);
        due.is(x.text(0), 1);

        due.at("promise 12: BEYOND (THE TAPE stays)");
        x = new AshLoans();
        Scenes.feed(x, "7");
        due.is(x.text(-1), BEYOND);
        due.is(x.text(2), BEYOND);
        due.is(x.count(6), 1);
        due.is(x.text(0), 1);
        due.is(x.law(0, 0, 0, 0), 7);

        due.at("promise 12: THE TAPE, which is empty then");
        due.is(x.count(6), 0);
        due.is(x.text(0), -10);

        due.at("promise 12: a FAULT: no ERROR; the one ahead stays; THE TAPE is empty, too");
        Scenes.feed(x, "8+");
        due.is(x.text(0), -12);
        due.is(x.count(6), 0);
        due.is(x.law(0, 0, 0, 0), 7);
        due.is(x.text(0), -10);
        due.is(x.law(0, 0, 0, 0), 7);
        Scenes.feed(x, "k)");
        due.is(x.text(1), -10);
        due.is(x.law(1, 9, 0, 0), 7);
        due.is(x.told(1), 2);
        for (int k = 2; k <= 5; k++) {
            due.is(x.told(k), 0);
        }

        due.at("promise 12: in place of one ahead, of that USE alone; a shorter one, too");
        due.is(Scenes.text(x, 1, "1+2+3+4+5+6+7+8"), 1);
        due.is(Scenes.text(x, 0, "1+1+1+1+1+1"), 1);
        due.is(Scenes.text(x, 0, "3"), 1);
        due.is(x.law(0, 0, 0, 0), 3);
        due.is(x.law(1, 0, 0, 0), 36);
        due.is(Scenes.text(x, 0, "!!!m"), 1);
        due.is(x.law(0, 5, 0, 0), 0);
        due.is(Scenes.text(x, 0, "m"), 1);
        due.is(x.law(0, 5, 0, 0), 5);
        due.at("promise 12: a TEXT of 50 bytes that are all parts and signs");
        x = new AshLoans();
        due.is(Scenes.text(x, 1, "!n+1+1+1+1+1+1+1+1+1+1+1+1+1+1+1+1+1+1+1+1+1+1+1+m"), 1);
        due.is(x.law(1, 0, 50, 0), 1 + 23 + 50);
        due.is(x.law(1, 9, 50, 0), 23 + 50);

        due.at("promise 13: its NAMES in order as a, b, c");
        x = new AshLoans();
        Scenes.text(x, 0, "m*9+k*3+h");
        due.is(x.law(0, 1, 2, 4), 9 + 6 + 4);
        Scenes.text(x, 1, "n*9+m*3+d");
        due.is(x.law(1, 1, 2, 4), 9 + 6 + 4);
    }

    // ---- promises 14 to 17

    private static void lending() {
        due.at("promise 14: STATE: one hasn't so many: by one");
        AshLoans x = Scenes.with(2, 5, 6);
        x.store(0, 0, 98);
        x.store(0, 1, 999);
        due.is(x.lend(0, 1, 0, 99, 1), STATE);
        due.is(x.lend(0, 1, 0, 98, 1), 0);
        due.is(x.stored(0, 0), 0);
        due.is(x.lend(0, 1, 0, 1, 1), STATE);
        due.is(x.stored(1, 0), 98);

        due.at("promise 14: STATE: the other one would have more than 999: by one");
        x = Scenes.with(2, 5);
        x.store(0, 0, 999);
        x.store(1, 0, 901);
        due.is(x.lend(0, 1, 0, 99, 1), STATE);
        due.is(x.lend(0, 1, 0, 98, 1), 0);
        due.is(x.stored(1, 0), 999);
        due.is(x.stored(0, 0), 901);
        due.is(x.lend(0, 1, 0, 1, 1), STATE);

        due.at("promise 14: FULL, behind BEYOND and STATE");
        x = Scenes.with(2, 5);
        x.store(0, 0, 11);
        for (int i = 0; i < 10; i++) {
            due.is(x.lend(0, 1, 0, 1, 60), i);
        }
        due.is(x.lend(0, 1, 0, 1, 60), FULL);
        due.is(x.lend(0, 1, 0, 2, 60), STATE);
        due.is(x.lend(0, 1, 0, 0, 60), BEYOND);
        due.is(x.lend(1, 1, 0, 1, 60), BEYOND);
        due.is(x.stored(0, 0), 1);

        due.at("promise 14: also to oneself: ahead of STATE");
        x = Scenes.with(2, 5);
        due.is(x.lend(1, 1, 0, 1, 1), BEYOND);
        due.is(x.lend(0, 1, 0, 1, 1), STATE);

        due.at("promise 14: DUE behind d DAYS, beyond 9999, too; it never comes then");
        x = Scenes.after(166, Scenes.with(2, 5));
        x.days(39);
        due.is(Scenes.lent(x, 0, 1, 0, 1, 1), 0);
        due.is(x.ofLoan(0, 4), 10000);
        due.is(x.days(1), STATE);
        due.is(x.loose(1), STATE);
        due.is(x.count(2), 1);

        due.at("promise 15: a LOAN that is gone");
        x = Scenes.with(2, 5);
        due.is(x.ofLoan(0, 0), BEYOND);
        Scenes.lent(x, 0, 1, 0, 1, 1);
        due.is(x.ofLoan(0, 4), 1);
        x.days(1);
        due.is(x.ofLoan(0, 0), BEYOND);
    }

    private static void givingBack() {
        due.at("promise 16: STATE: who has it hasn't as many: by one");
        AshLoans x = Scenes.with(2, 5);
        Scenes.lent(x, 0, 1, 0, 50, 9);
        x.store(1, 0, 49);
        due.is(x.back(0), STATE);
        due.is(x.stored(1, 0), 49);
        due.is(x.count(2), 1);
        due.is(x.count(5), 0);
        x.store(1, 0, 50);
        due.is(x.back(0), 38);
        due.is(x.stored(1, 0), 0);
        due.is(x.count(2), 0);
        due.at("promise 16: BEYOND: it is gone");
        due.is(x.back(0), BEYOND);

        due.at("promise 16: what the other one gets by it (ahead of being held)");
        x = Scenes.with(2, 5);
        for (int had : new int[] {960, 961, 962, 999}) {
            Scenes.lent(x, 0, 1, 0, 50, 9);
            x.store(0, 0, had);
            due.is(x.back(0), 38);
            due.is(x.stored(0, 0), Math.min(999, had + 38));
        }
        due.at("promise 16: what the other one gets by it: nothing, 99");
        x = Scenes.with(2, 5);
        Scenes.text(x, 1, "n-5");
        Scenes.lent(x, 0, 1, 0, 4, 9);
        due.is(x.back(0), 0);
        Scenes.text(x, 1, "n*n");
        Scenes.lent(x, 0, 1, 0, 10, 9);
        due.is(x.back(0), 99);
        due.is(x.stored(0, 0), 99);
    }

    private static void firing() {
        due.at("promise 17: BEYOND: also BUSHELS of no ASH");
        AshLoans x = Scenes.with(1);
        due.is(x.fire(0, 1, 0), BEYOND);
        for (int ash = 0; ash < 5; ash++) {
            x.ash(0);
            x.store(0, ash, 9);
            int first = (int) Math.pow(10, ash + 1);
            due.is(x.fire(0, first, 0), BEYOND);
            due.is(x.fire(0, first - 1, 0), 0);
            due.is(x.stored(0, ash), 0);
            for (int other = 0; other <= ash; other++) {
                x.store(0, other, 9);
            }
        }

        due.at("promise 17: NONE: no BUSHEL at all");
        x = Scenes.with(1, 40);
        due.is(x.fire(0, 0, 8), NONE);
        due.is(Scenes.with(1).fire(0, 0, 0), NONE);
        due.at("promise 17: BEYOND ahead of NONE");
        due.is(x.fire(0, 0, 10), BEYOND);
        due.is(x.fire(1, 0, 0), BEYOND);

        due.at("promise 17: STATE: one hasn't so many: by one, of any ASH");
        for (int ash = 0; ash < 5; ash++) {
            x = Scenes.with(1, 0, 0, 0, 0, 0);
            for (int other = 0; other < 5; other++) {
                x.store(0, other, 9);
            }
            x.store(0, ash, 8);
            due.is(x.fire(0, 99999, 0), STATE);
            due.is(x.count(4), 0);
            due.is(x.stored(0, ash), 8);
            due.is(x.fire(0, 99999 - (int) Math.pow(10, ash), 0), 0);
            for (int other = 0; other < 5; other++) {
                due.is(x.stored(0, other), 0);
            }
        }

        due.at("promise 17: KIND: FORBIDDEN, behind STATE");
        x = Scenes.with(1, 40, 60, 0);
        x.store(0, 0, 1);
        x.store(0, 1, 1);
        due.is(x.fire(0, 1, 8), KIND);
        due.is(x.fire(0, 1, 9), KIND);
        due.is(x.fire(0, 10, 0), KIND);
        due.is(x.fire(0, 2, 8), STATE);
        due.is(x.fire(0, 110, 0), STATE);
        due.is(x.fire(0, 1, 10), BEYOND);
        due.is(x.count(4), 0);
        due.is(x.stored(0, 0), 1);
        due.is(x.fire(0, 1, 7), 5);
        due.is(x.stored(0, 0), 0);
        due.is(x.ofPotter(0, 0), 1);
    }

    // ---- promises 18 and 19

    private static void passing() {
        due.at("promise 18: how many LOANS are left: all, none");
        AshLoans x = Scenes.with(2, 5);
        for (int i = 0; i < 10; i++) {
            Scenes.lent(x, 0, 1, 0, 1, 60);
        }
        due.is(x.days(59), 10);
        due.is(x.days(1), 0);

        due.at("promise 18: STATE: DAY would be above 9999: by one; not at 9999");
        x = Scenes.after(166, new AshLoans());
        due.is(x.days(40), STATE);
        due.is(x.days(60), STATE);
        due.is(x.count(3), 9960);
        due.is(x.days(39), 0);
        due.is(x.count(3), 9999);
        due.at("promise 18: BEYOND ahead of STATE");
        due.is(x.days(0), BEYOND);
        due.is(x.days(61), BEYOND);
        due.is(x.days(1), STATE);

        due.at("promise 19: STATE: DAY would be above 9999: by one; not at 9999");
        x = Scenes.after(166, Scenes.with(1, 5));
        due.is(x.loose(40), STATE);
        due.is(x.count(3), 9960);
        due.is(x.count(9), 1);
        due.is(x.ofAsh(0, 2), 0);
        due.is(x.loose(39), 0);
        due.is(x.count(3), 9999);
        due.at("promise 19: BEYOND ahead of STATE");
        due.is(x.loose(0), BEYOND);
        due.is(x.loose(41), BEYOND);
        due.is(x.loose(1), STATE);

        due.at("promise 19: likewise: how many LOANS are left");
        x = Scenes.with(2, 5);
        Scenes.lent(x, 0, 1, 0, 1, 39);
        Scenes.lent(x, 0, 1, 0, 1, 40);
        Scenes.lent(x, 0, 1, 0, 1, 41);
        due.is(x.loose(40), 1);
        due.is(x.count(3), 40);
        due.is(x.loose(1), 0);
    }

    // ---- promises 20, 23 to 25, 28

    private static void seeing() {
        due.at("promise 20: BEYOND: also BUSHELS of no ASH; KIND behind it");
        AshLoans x = new AshLoans();
        for (int ash = 0; ash <= 5; ash++) {
            int first = (int) Math.pow(10, ash);
            due.is(x.colour(first, 0), BEYOND);
            due.is(x.heats(first, 0), BEYOND);
            due.is(x.odds(first, 0, 0), BEYOND);
            due.is(x.colour(first - 1, 0), 0);
            due.is(x.heats(first - 1, 0) & 1, 1);
            due.is(x.odds(first - 1, 0, 1) > 0 ? 1 : 0, 1);
            x.ash(0);
        }
        x = Scenes.with(0, 60);
        due.is(x.colour(9, 9), KIND);
        due.is(x.colour(10, 0), BEYOND);
        due.is(x.colour(1, 10), BEYOND);
        due.is(x.colour(0, 0), 0);

        due.at("promise 23: NONE: there is none: nothing there, nothing of that COLOUR");
        x = Scenes.with(1);
        due.is(x.recipe(0, 0, 0), NONE);
        x.ash(5);
        due.is(x.recipe(0, 5, 0), NONE);
        x.store(0, 0, 1);
        due.is(x.recipe(0, 4, 0), NONE);
        due.is(x.recipe(0, 5, 0), 1);
        due.at("promise 23: BEYOND ahead of NONE");
        due.is(x.recipe(0, 10, 0), BEYOND);

        due.at("promise 23: all MIXES: up to 3 BUSHELS of the last ASH, and many together");
        x = Scenes.with(1, 0, 0, 0, 0, 1);
        Scenes.text(x, 0, "m");
        for (int ash = 0; ash < 5; ash++) {
            x.store(0, ash, 999);
        }
        due.is(x.recipe(0, 3, 0), 30000);
        due.is(x.recipe(0, 4, 0), NONE);
        due.is(x.recipe(0, 0, 0), 1);
        for (int ash = 0; ash < 4; ash++) {
            x.become(ash, 1);
        }
        due.is(x.recipe(0, 0, 0), 1333);
        x.become(0, 0);
        x.store(0, 0, 0);
        due.is(x.recipe(0, 0, 0), 13330);

        due.at("promise 25: of 10 numbers at most; NONE: the SHEET is missing, has more");
        x = Scenes.with(0, 0);
        due.is(x.burnt(0), NONE);
        x.sheet(0, 8, 11);
        due.is(x.burnt(0), NONE);
        x.sheet(0, 8, 40);
        due.is(x.burnt(0), NONE);
        Scenes.row(x, 0, 8, 0, 1, 2, 3, 4, 5, 6, 7, 8, 9);
        due.is(x.burnt(0), 1);
        x.put(0, 9, 8);
        due.is(x.burnt(0), 0);
        x.sheet(0, 8, 0);
        due.is(x.burnt(0), 1);
        x.sheet(0, 0, 0);
        due.is(x.burnt(0), NONE);
        due.at("promise 25: BEYOND ahead of NONE");
        due.is(x.burnt(4), BEYOND);
        due.is(x.burnt(-1), BEYOND);
    }

    // ---- promises 21, 22, 26, 27

    private static void thinking() {
        due.at("promise 21: what -1 BROKEN, 0 .. BUSHELS of that ASH: all five, no sixth");
        AshLoans x = Scenes.with(1, 0, 0, 0, 0, 0);
        for (int ash = 0; ash < 5; ash++) {
            x.store(0, ash, 10 + ash);
            due.is(x.then(0, 0, ash), 10 + ash);
        }
        due.is(x.then(0, 0, -1), 0);
        due.is(x.then(0, 0, 5), BEYOND);
        due.is(x.then(0, 0, -2), BEYOND);
        x = Scenes.with(1);
        due.is(x.then(60, 0, -1), 0);
        due.is(x.then(60, 0, 0), BEYOND);

        due.at("promise 21: BEHIND 0 DAYS all is as it is now");
        x = Scenes.with(2, 0);
        Scenes.lent(x, 0, 1, 0, 5, 1);
        x.store(1, 0, 4);
        x.hedge(0, 0, 9);
        due.is(x.then(0, 1, 0), 4);
        due.is(x.then(0, 1, -1), 0);
        due.is(x.then(0, 0, 0), 0);
        due.is(x.then(1, 1, -1), 1);
        due.is(x.then(1, 0, 0), 9);

        due.at("promise 22: NONE: not by 60");
        due.is(x.breaks(1), 1);
        due.is(x.breaks(0), NONE);
        due.is(Scenes.with(1).breaks(0), NONE);
        x.hedge(0, 1, 1);
        due.is(x.breaks(1), NONE);
        x.hedge(0, 0, 1);
        due.is(x.breaks(1), NONE);
        x.hedge(0, 0, 0);
        due.is(x.breaks(1), 1);

        due.at("promise 26: a LOAN that is gone goes round no more");
        x = Scenes.with(2, 0);
        Scenes.lent(x, 0, 1, 0, 5, 1);
        Scenes.lent(x, 1, 0, 0, 99, 2);
        due.is(x.round(), 5);
        x.back(0);
        due.is(x.round(), 0);

        due.at("promise 27: FULL: there are 10 LOANS, ahead of NONE; not at 9");
        x = Scenes.with(2, 0);
        x.store(0, 0, 99);
        for (int i = 0; i < 9; i++) {
            x.lend(0, 1, 0, 1, 60);
        }
        due.is(x.lender(1, 0, 1, 1), 0);
        x.lend(0, 1, 0, 1, 60);
        due.is(x.lender(1, 0, 1, 1), FULL);
        due.is(x.lender(1, 0, 99, 1), FULL);
        due.is(x.lender(1, 0, 100, 1), BEYOND);
        x.back(0);
        due.is(x.lender(1, 0, 99, 1), NONE);

        due.at("promise 27: NONE: there is none: by one BUSHEL");
        x = Scenes.with(3, 0);
        x.store(0, 0, 9);
        x.store(2, 0, 990);
        due.is(x.lender(1, 0, 10, 1), 2);
        due.is(x.lender(2, 0, 9, 1), 0);
        due.is(x.lender(2, 0, 10, 1), NONE);
        x.store(2, 0, 991);
        due.is(x.lender(2, 0, 9, 1), NONE);
        due.is(Scenes.with(1, 0).lender(0, 0, 1, 1), NONE);
    }

    // ---- promises 30 and 31

    private static void voices() {
        due.at("promise 31: NONE: there is none such: no voice() yet");
        AshLoans x = Scenes.with(0, 0, 62);
        due.is(x.trace(0), NONE);
        due.is(x.trace(-1), NONE);
        due.at("promise 31: the first and the last one, none ahead of it, none behind it");
        x.voice(0, 0, 0);
        due.is(x.trace(0), 10);
        due.is(x.trace(1), NONE);
        x.voice(1, 3, 0);
        due.is(x.count(8), 9);
        due.is(x.trace(0), 71);
        due.is(x.trace(8), 12);
        for (int i : new int[] {-1, 9, 39, 40, MIN, MAX}) {
            due.is(x.trace(i), NONE);
        }
        due.at("promise 31: a voice() that is BEYOND is none");
        due.is(x.voice(2, 0, 0), BEYOND);
        due.is(x.voice(0, 4, 0), BEYOND);
        due.is(x.count(8), 9);
        due.is(x.trace(8), 12);
    }

    // ---- promises 32 to 36

    private static void sheets() {
        due.at("promise 32: of so many bits (8, 16, 32; 0): no others");
        for (int bits = -1; bits <= 65; bits++) {
            AshLoans x = new AshLoans();
            boolean is = bits == 0 || bits == 8 || bits == 16 || bits == 32;
            due.is(x.sheet(0, bits, 1), is ? 1 : BEYOND);
            due.is(x.put(0, 0, 0), is && bits != 0 ? 1 : NONE);
        }
        AshLoans x = new AshLoans();
        due.is(x.sheet(0, MIN, 1), BEYOND);
        due.is(x.sheet(0, MAX, 1), BEYOND);

        due.at("promise 32: 0: it is missing, n doesn't matter");
        for (int n : new int[] {MIN, -1, 0, 40, 41, MAX}) {
            x = new AshLoans();
            x.sheet(0, 8, 3);
            due.is(x.sheet(0, 0, n), 1);
            due.is(x.put(0, 0, 0), NONE);
            due.is(x.sheet(1, 0, n), 1);
        }

        due.at("promise 32: STATE: n is below 0 (ahead of BEYOND of n)");
        x = new AshLoans();
        due.is(x.sheet(0, 8, -1), STATE);
        due.is(x.sheet(0, 32, MIN), STATE);
        due.is(x.sheet(0, 8, 41), BEYOND);
        due.is(x.sheet(0, 8, MAX), BEYOND);
        due.at("promise 32: STATE: n is below 0, behind BEYOND of SHEET and bits");
        due.is(x.sheet(4, 8, -1), BEYOND);
        due.is(x.sheet(-1, 8, -1), BEYOND);
        due.is(x.sheet(0, 9, -1), BEYOND);
        due.is(x.put(0, 0, 0), NONE);

        due.at("promise 32: n numbers, all 0: though others stood there");
        x = Scenes.with(0, 9, 9, 9, 9, 9);
        Scenes.row(x, 0, 8, 7, 7, 7, 7, 7, 7);
        for (int bits = 8; bits <= 32; bits *= 2) {
            x.sheet(0, bits, 5);
            due.is(x.hedges(0), 5);
            for (int ash = 0; ash < 5; ash++) {
                due.is(x.ofAsh(ash, 2), 0);
            }
            Scenes.row(x, 0, bits, 7, 7, 7, 7, 7, 7);
        }
        x.sheet(0, 8, 3);
        x.sheet(0, 8, 5);
        due.is(x.hedges(0), 5);
        due.is(x.ofAsh(4, 2), 0);

        due.at("promise 33: BEYOND: no such SHEET. NONE: it is missing. BEYOND: no such number");
        x = new AshLoans();
        due.is(x.put(4, -1, 0), BEYOND);
        due.is(x.put(-1, 0, 0), BEYOND);
        due.is(x.put(3, 0, 0), NONE);
        due.is(x.put(3, -1, 0), NONE);
        due.is(x.put(3, 40, 0), NONE);
        x.sheet(3, 8, 0);
        due.is(x.put(3, 0, 0), BEYOND);
        x.sheet(3, 8, 1);
        due.is(x.put(3, -1, 0), BEYOND);
        due.is(x.put(3, 1, 0), BEYOND);
        due.is(x.put(3, 0, 0), 1);
        x.sheet(3, 8, 40);
        due.is(x.put(3, 39, 0), 1);
        due.is(x.put(3, 40, 0), BEYOND);
    }

    private static void moves() {
        due.at("promise 34: BEYOND: no such SHEET: ahead of NONE");
        AshLoans x = new AshLoans();
        due.is(x.move(4, 0, 0, 0, 0), BEYOND);
        due.is(x.move(0, 0, 4, 0, 0), BEYOND);
        due.is(x.move(-1, 0, 0, 0, 0), BEYOND);
        due.is(x.move(0, 0, -1, 0, 0), BEYOND);
        due.at("promise 34: NONE: one is missing: ahead of KIND, of BEYOND of n");
        x.sheet(0, 8, 5);
        due.is(x.move(0, 0, 1, 0, 1), NONE);
        due.is(x.move(1, 0, 0, 0, 1), NONE);
        due.is(x.move(1, 0, 1, 0, 1), NONE);
        due.is(x.move(1, -1, 1, -1, -1), NONE);
        due.at("promise 34: KIND: they are of unlike bits: ahead of BEYOND of n");
        x.sheet(1, 16, 5);
        x.sheet(2, 32, 5);
        due.is(x.move(0, 0, 1, 0, 1), KIND);
        due.is(x.move(1, 0, 2, 0, 1), KIND);
        due.is(x.move(2, 0, 0, 0, 0), KIND);
        due.is(x.move(2, -1, 0, 6, 99), KIND);

        due.at("promise 34: BEYOND: n, i, or j is below 0, or they don't stand there");
        for (int bits = 8; bits <= 32; bits *= 2) {
            x.sheet(0, bits, 5);
            x.sheet(1, bits, 4);
            due.is(x.move(0, 0, 1, 0, -1), BEYOND);
            due.is(x.move(0, -1, 1, 0, 1), BEYOND);
            due.is(x.move(0, 0, 1, -1, 1), BEYOND);
            due.is(x.move(0, 0, 1, 0, 4), 4);
            due.is(x.move(0, 0, 1, 0, 5), BEYOND);
            due.is(x.move(1, 0, 0, 0, 5), BEYOND);
            due.is(x.move(1, 0, 0, 1, 4), 4);
            due.is(x.move(1, 0, 0, 2, 4), BEYOND);
            due.is(x.move(1, 1, 0, 0, 4), BEYOND);
            due.is(x.move(0, 4, 1, 3, 1), 1);
            due.is(x.move(0, 5, 1, 3, 1), BEYOND);
            due.is(x.move(0, 4, 1, 4, 1), BEYOND);
            due.is(x.move(0, MAX, 1, 0, 1), BEYOND);
            due.is(x.move(0, 1, 1, 0, MAX), BEYOND);
            due.is(x.move(0, 0, 1, MAX, MAX), BEYOND);
            due.is(x.move(0, MIN, 1, MIN, MIN), BEYOND);
        }
        due.at("promise 34: no number at all");
        due.is(x.move(0, 0, 1, 0, 0), 0);
        due.is(x.move(0, 5, 1, 4, 0), 0);
        x.sheet(2, 32, 0);
        due.is(x.move(2, 0, 2, 0, 0), 0);
        due.is(x.move(2, 0, 2, 0, 1), BEYOND);

        due.at("promise 34: (or the same), as they all were: upwards and downwards");
        for (int by = 1; by < 5; by++) {
            int[] up = {1, 2, 3, 4, 5};
            int[] down = {1, 2, 3, 4, 5};
            System.arraycopy(up, 0, up, by, 5 - by);
            System.arraycopy(down, by, down, 0, 5 - by);
            x = Scenes.with(0, 0, 0, 0, 0, 0);
            Scenes.row(x, 3, 16, 1, 2, 3, 4, 5);
            due.is(x.move(3, 0, 3, by, 5 - by), 5 - by);
            hedgesAre(x, 3, up);
            Scenes.row(x, 3, 16, 1, 2, 3, 4, 5);
            due.is(x.move(3, by, 3, 0, 5 - by), 5 - by);
            hedgesAre(x, 3, down);
        }
        due.at("promise 34: all forty, to another one");
        x = Scenes.with(0, 0, 0, 0, 0, 0);
        x.sheet(0, 8, 40);
        x.sheet(1, 8, 40);
        x.put(0, 0, 1);
        x.put(0, 4, 2);
        x.put(0, 39, 3);
        due.is(x.move(0, 0, 1, 0, 40), 40);
        hedgesAre(x, 1, 1, 0, 0, 0, 2);
        due.is(x.move(1, 39, 1, 0, 1), 1);
        hedgesAre(x, 1, 3, 0, 0, 0, 2);
        hedgesAre(x, 0, 1, 0, 0, 0, 2);
    }

    private static void hedgesAre(AshLoans x, int sheet, int... numbers) {
        due.is(x.hedges(sheet), numbers.length);
        for (int i = 0; i < numbers.length; i++) {
            due.is(x.ofAsh(i, 2), numbers[i]);
        }
    }

    private static void readSheets() {
        due.at("promise 35: BEYOND: no such SHEET. NONE: it is missing");
        AshLoans x = Scenes.with(0, 0, 0, 0);
        due.is(x.hedges(4), BEYOND);
        due.is(x.hedges(-1), BEYOND);
        due.is(x.hedges(3), NONE);
        due.at("promise 35: up to the first that is not 0 to 9 (no ERROR then)");
        int[] not = {-1, 10, 127, -128};
        for (int v : not) {
            for (int place = 0; place < 3; place++) {
                x = Scenes.with(0, 0, 0, 0);
                Scenes.row(x, 0, 8, 9, 9, 9);
                x.put(0, place, v);
                due.is(x.hedges(0), place);
                for (int ash = 0; ash < 3; ash++) {
                    due.is(x.ofAsh(ash, 2), ash < place ? 9 : 0);
                }
                due.is(x.told(1), 0);
            }
        }
        due.at("promise 35: or for which there is no ASH");
        x = new AshLoans();
        Scenes.row(x, 0, 8, 1, 2, 3, 4, 5, 6);
        for (int there = 0; there <= 5; there++) {
            due.is(x.hedges(0), there);
            x.ash(0);
        }
        due.is(x.ofAsh(4, 2), 5);
        due.at("promise 35: a SHEET of fewer numbers, of none: the other HEDGES stay");
        Scenes.row(x, 0, 8, 9);
        due.is(x.hedges(0), 1);
        due.is(x.ofAsh(0, 2), 9);
        due.is(x.ofAsh(1, 2), 2);
        x.sheet(0, 8, 0);
        due.is(x.hedges(0), 0);
        due.is(x.ofAsh(0, 2), 9);

        due.at("promise 36: BEYOND: no such SHEET. NONE: it is missing");
        x = Scenes.with(2, 5);
        due.is(x.judge(4), BEYOND);
        due.is(x.judge(-1), BEYOND);
        due.is(x.judge(3), NONE);
        due.at("promise 36: -1: all are: none of none");
        x.sheet(0, 8, 0);
        due.is(x.judge(0), -1);
        due.at("promise 36: the first that isn't so (one that lacks, or is too many, too)");
        for (int loans = 1; loans <= 10; loans++) {
            Scenes.lent(x, 0, 1, 0, loans, 9);
            due.is(x.judge(0), loans - 1);
            x.sheet(0, 8, loans + 1);
            for (int i = 0; i < loans; i++) {
                x.put(0, i, i + 1);
            }
            due.is(x.judge(0), loans);
            x.sheet(0, 8, loans);
            for (int i = 0; i < loans; i++) {
                due.is(x.judge(0), i);
                x.put(0, i, i + 1);
            }
            due.is(x.judge(0), -1);
        }
        due.at("promise 36: the first that isn't so, of several");
        x.put(0, 9, 1);
        x.put(0, 4, 1);
        due.is(x.judge(0), 4);
    }

    // ---- promises 37 to 42

    private static void images() {
        due.at("promise 38: NONE: there is none");
        AshLoans x = new AshLoans();
        due.is(x.restore(), NONE);
        x.days(5);
        due.is(x.restore(), NONE);
        due.is(x.count(3), 5);
        due.at("promise 37: in place of one ahead: how often that was done");
        due.is(x.image(), 1);
        x.days(5);
        due.is(x.image(), 2);
        x.days(5);
        due.is(x.restore(), 10);
        due.at("promise 38: the IMAGE stays");
        x.days(7);
        due.is(x.restore(), 10);
        due.is(x.restore(), 10);
        due.at("promise 37: how often this was done is no part of it");
        due.is(x.image(), 3);

        due.at("promise 37: an IMAGE of nothing takes all away");
        x = new AshLoans();
        x.image();
        x.potter();
        x.potter();
        x.ash(5);
        Scenes.lent(x, 0, 1, 0, 5, 9);
        Scenes.text(x, 0, "1");
        Scenes.text(x, 1, "1");
        Scenes.feed(x, "m");
        x.tell(1);
        x.seed(9);
        x.days(1);
        due.is(x.restore(), 0);
        for (int what = 0; what <= 8; what++) {
            due.is(x.count(what), 0);
        }
        due.is(x.count(9), 1);
        due.is(x.law(0, 4, 0, 4), 8);
        due.is(x.law(1, 4, 0, 4), 3);

        due.at("promise 37: but SHEETS, THE TRACE, what told() tells");
        x = Scenes.with(0, 5);
        x.image();
        Scenes.row(x, 0, 8, 7);
        x.voice(0, 1, 0);
        x.ash(70);
        due.is(x.restore(), 0);
        due.is(x.hedges(0), 1);
        due.is(x.ofAsh(0, 2), 7);
        due.is(x.count(8), 2);
        due.is(x.trace(0), 11);
        due.is(x.told(1), 1);
        Scenes.row(x, 1, 16, 1);
        x.image();
        x.sheet(1, 0, 0);
        x.restore();
        due.is(x.judge(1), NONE);

        due.at("promise 37: a full county is kept whole");
        x = Scenes.with(4, 1, 12, 23, 34, 45);
        for (int i = 0; i < 10; i++) {
            Scenes.lent(x, i % 4, (i + 1) % 4, i % 5, 10 + i, 20 + i);
        }
        for (int i = 0; i < 20; i++) {
            x.tell(10);
        }
        for (int i = 0; i < 50; i++) {
            x.feed(i % 2 == 0 ? '1' : '+', 1);
        }
        x.image();
        x.days(60);
        x.check();
        x.text(0);
        due.is(x.restore(), 0);
        due.is(x.count(2), 10);
        due.is(x.count(6), 50);
        due.is(x.count(7), 20);
        for (int i = 0; i < 10; i++) {
            due.is(x.ofLoan(i, 0), i % 4);
            due.is(x.ofLoan(i, 1), (i + 1) % 4);
            due.is(x.ofLoan(i, 2), i % 5);
            due.is(x.ofLoan(i, 3), 10 + i);
            due.is(x.ofLoan(i, 4), 20 + i);
        }
        due.is(x.text(0), -60);
        due.is(x.check(), 1 + 19);
    }

    private static void telling() {
        due.at("promise 39: FULL: 20 wait");
        AshLoans x = new AshLoans();
        for (int i = 1; i <= 20; i++) {
            due.is(x.tell(0), i);
        }
        due.is(x.tell(0), FULL);
        due.is(x.count(7), 20);
        due.is(x.check(), 0);
        due.at("promise 39: none do then: the next is the first");
        due.is(x.count(7), 0);
        due.is(x.tell(0), 1);

        due.at("promise 40: no number waits");
        x = Scenes.with(2, 5);
        due.is(x.check(), 0);
        Scenes.lent(x, 0, 1, 0, 1, 1);
        due.is(x.check(), 0);
        due.at("promise 40: else 1 and the place (from 0) of the first that isn't so: each place");
        for (int place = 0; place < 20; place++) {
            x = Scenes.with(2, 5);
            Scenes.lent(x, 0, 1, 0, 1, 60);
            for (int i = 0; i < 20; i++) {
                x.tell(i == place ? 2 : i > place + 1 ? -1 : 1);
            }
            due.is(x.check(), 1 + place);
            due.is(x.count(7), 0);
            due.is(x.check(), 0);
        }
        due.at("promise 40: left behind 1, 2, .. DAYS: the last of 20");
        x = Scenes.with(2, 5);
        Scenes.lent(x, 0, 1, 0, 1, 20);
        Scenes.lent(x, 0, 1, 0, 1, 21);
        for (int i = 1; i <= 20; i++) {
            x.tell(i < 20 ? 2 : 1);
        }
        due.is(x.check(), 0);
        due.is(x.count(2), 2);
        due.is(x.count(3), 0);

        due.at("promise 41: each at its most");
        x = Scenes.with(4, 0, 0, 0, 0, 60);
        for (int i = 0; i < 10; i++) {
            Scenes.lent(x, 0, 1, 0, 1, 60);
        }
        x.voice(4, 3, 0);
        due.is(x.count(0), 5);
        due.is(x.count(1), 4);
        due.is(x.count(2), 10);
        due.is(x.count(8), 9);
        due.at("promise 41: of all POTTERS together");
        for (int potter = 0; potter < 4; potter++) {
            x.store(potter, 2, 9);
            for (int i = 0; i <= potter; i++) {
                x.fire(potter, 100, 0);
            }
        }
        due.is(x.count(4), 1 + 2 + 3 + 4);
        x.back(0);
        x.back(0);
        Scenes.lent(x, 1, 2, 1, 5, 1);
        Scenes.lent(x, 0, 3, 1, 5, 1);
        x.store(2, 1, 4);
        x.store(3, 1, 4);
        x.days(1);
        due.is(x.count(5), 2);
        due.is(x.count(2), 8);

        due.at("promise 42: none, and one of each alone");
        for (int k = 1; k <= 5; k++) {
            x = Scenes.with(4, 10);
            due.is(x.told(k), 0);
            int[] got = {0, k == 1 ? x.ash(70) : 0, k == 2 ? x.trace(0) : 0, k == 3 ? x.sheet(0, 8, -1) : 0,
                k == 4 ? x.potter() : 0, k == 5 ? x.as(0, 2) : 0};
            due.is(got[k], -1000000000 - k);
            for (int other = 1; other <= 5; other++) {
                due.is(x.told(other), other == k ? 1 : 0);
            }
        }
        due.at("promise 42: BEYOND: another k (counted, too)");
        x = new AshLoans();
        due.is(x.told(0), BEYOND);
        due.is(x.told(1), 1);
        due.is(x.told(6), BEYOND);
        due.is(x.told(-1), BEYOND);
        due.is(x.told(1), 3);
        due.is(x.told(2), 0);
    }
}
