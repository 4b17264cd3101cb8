import java.util.ArrayList;
import java.util.List;
import java.util.function.Supplier;
import java.util.function.ToIntFunction;

/**
 * An act that answers an ERROR changes nothing but what told() tells: each act with each of its ERRORS, compared
 * with an object that never was asked. And what would be is only thought: such acts change nothing at all.
 */
public final class RefusedTest {
    private static final int BEYOND = 1;
    private static final int NONE = 2;
    private static final int STATE = 3;
    private static final int FULL = 4;
    private static final int KIND = 5;
    private static final int LOW = Due.LOW;
    private static final Due due = new Due();

    private static Supplier<AshLoans> scene;

    public static void main(String[] args) {
        scene = RefusedTest::plain;
        ashesAndPotters();
        textsAndLoans();
        whatWouldBe();
        theRest();
        onlyThought();
        scene = RefusedTest::full;
        full(FULL);
        scene = RefusedTest::late;
        refused(STATE, "days", x -> x.days(10));
        refused(STATE, "loose", x -> x.loose(10));
        due.end();
    }

    // ---- the objects

    /** Something of all, and no IMAGE. */
    private static AshLoans plain() {
        AshLoans x = Scenes.with(3, 5, 46, 60);
        for (int potter = 0; potter < 3; potter++) {
            for (int ash = 0; ash < 3; ash++) {
                x.store(potter, ash, 100 + 10 * potter + ash);
            }
        }
        x.store(2, 0, 950);
        x.hedge(0, 0, 3);
        x.hedge(1, 1, 2);
        x.lend(0, 1, 0, 20, 9);
        x.lend(1, 2, 1, 30, 6);
        x.lend(0, 1, 2, 40, 60);
        x.store(1, 2, 39);
        x.days(4);
        x.fire(0, 1, 2);
        x.seed(77);
        rows(x);
        x.tell(3);
        x.tell(2);
        Scenes.text(x, 0, "m+k");
        Scenes.text(x, 1, "n-1");
        Scenes.feed(x, "h*2");
        x.voice(1, 3, 9);
        return x;
    }

    private static void rows(AshLoans x) {
        Scenes.row(x, 0, 8, 1, 2, 3, 4, 5);
        Scenes.row(x, 1, 16, 6, 7, 8);
        x.sheet(2, 8, 12);
        x.put(2, 0, 9);
        x.put(2, 11, 4);
    }

    /** All that can be full is full; the IMAGE is of a little less. */
    private static AshLoans full() {
        AshLoans x = Scenes.with(4, 5, 16, 27, 38, 49);
        x.image();
        for (int i = 0; i < 10; i++) {
            Scenes.lent(x, i % 4, (i + 1) % 4, i % 5, 10 + i, 20 + i);
        }
        x.store(0, 0, 100);
        for (int i = 0; i < 20; i++) {
            x.tell(10);
        }
        for (int i = 0; i < 6; i++) {
            x.feed(0x2B6D2B6D2B6D2B6DL, 8);
        }
        rows(x);
        x.voice(1, 3, 9);
        return x;
    }

    /** DAY is 9990. */
    private static AshLoans late() {
        AshLoans x = Scenes.after(166, Scenes.with(2, 5, 16));
        x.days(30);
        Scenes.lent(x, 0, 1, 0, 5, 10);
        x.hedge(1, 0, 7);
        x.tell(1);
        return x;
    }

    // ---- the comparison

    private static void refused(int k, String what, ToIntFunction<AshLoans> act) {
        due.at(what + ", refused by LOW - " + k);
        AshLoans x = scene.get();
        int[] before = told(x);
        due.is(act.applyAsInt(x), LOW - k);
        before[k]++;
        compare(x, before);
    }

    private static void thought(String what, ToIntFunction<AshLoans> act) {
        due.at(what + ", which changes nothing");
        AshLoans x = scene.get();
        int[] before = told(x);
        int got = act.applyAsInt(x);
        due.is(got > LOW ? 1 : 0, 1);
        compare(x, before);
    }

    private static void compare(AshLoans x, int[] told) {
        int[] now = told(x);
        for (int k = BEYOND; k <= KIND; k++) {
            due.is(now[k], told[k]);
        }
        List<Integer> is = all(x);
        List<Integer> was = all(scene.get());
        due.is(is.size(), was.size());
        for (int i = 0; i < is.size() && i < was.size(); i++) {
            due.is(is.get(i), was.get(i));
        }
    }

    private static int[] told(AshLoans x) {
        int[] told = new int[6];
        for (int k = BEYOND; k <= KIND; k++) {
            told[k] = x.told(k);
        }
        return told;
    }

    /** All that an object can be asked; what asking changes comes last. */
    private static List<Integer> all(AshLoans x) {
        List<Integer> all = new ArrayList<>();
        county(x, all);
        for (int i = 0; i < x.count(8); i++) {
            all.add(x.trace(i));
        }
        all.add(x.law(0, 1, 2, 4));
        all.add(x.law(1, 10, 20, 40));
        for (int sheet = 0; sheet < 4; sheet++) {
            sheet(x, sheet, all);
        }
        all.add(x.check());
        all.add(x.text(0));
        all.add(x.law(0, 1, 2, 4));
        all.add(x.restore());
        county(x, all);
        all.add(x.image());
        return all;
    }

    private static void county(AshLoans x, List<Integer> all) {
        for (int what = 0; what <= 9; what++) {
            all.add(x.count(what));
        }
        int ashes = x.count(0);
        int potters = x.count(1);
        for (int ash = 0; ash < ashes; ash++) {
            for (int what = 0; what < 4; what++) {
                all.add(x.ofAsh(ash, what));
            }
            for (int potter = 0; potter < potters; potter++) {
                all.add(x.stored(potter, ash));
            }
        }
        for (int potter = 0; potter < potters; potter++) {
            all.add(x.ofPotter(potter, 0));
            all.add(x.ofPotter(potter, 1));
        }
        for (int loan = 0; loan < x.count(2); loan++) {
            for (int what = 0; what <= 4; what++) {
                all.add(x.ofLoan(loan, what));
            }
        }
    }

    /** The first numbers of a SHEET (as HEDGES), the next ones, its bits, and how many numbers there are. */
    private static void sheet(AshLoans x, int sheet, List<Integer> all) {
        for (int more = 0; more < 2; more++) {
            all.add(x.hedges(sheet));
            for (int ash = 0; ash < x.count(0); ash++) {
                all.add(x.ofAsh(ash, 2));
            }
            all.add(x.move(sheet, 3, sheet, 0, 2));
        }
        all.add(x.put(sheet, 0, 65536 + 5));
        all.add(x.hedges(sheet));
        all.add(x.put(sheet, 0, 256 + 5));
        all.add(x.hedges(sheet));
        int size = 0;
        while (x.put(sheet, size, 0) == 1) {
            size++;
        }
        all.add(size);
    }

    // ---- the acts

    private static void ashesAndPotters() {
        refused(BEYOND, "ash", x -> x.ash(-1));
        refused(BEYOND, "ash", x -> x.ash(70));
        refused(BEYOND, "ofAsh", x -> x.ofAsh(3, 0));
        refused(BEYOND, "ofAsh", x -> x.ofAsh(0, 5));
        refused(BEYOND, "hedge", x -> x.hedge(3, 0, 1));
        refused(BEYOND, "hedge", x -> x.hedge(0, 2, 1));
        refused(BEYOND, "hedge", x -> x.hedge(0, 0, 10));
        refused(BEYOND, "hedge", x -> x.hedge(0, 0, -1));
        refused(BEYOND, "hedge", x -> x.hedge(0, 1, 4));
        refused(BEYOND, "become", x -> x.become(3, 0));
        refused(BEYOND, "become", x -> x.become(0, 70));
        refused(BEYOND, "become", x -> x.become(0, -1));
        refused(BEYOND, "as", x -> x.as(3, 0));
        refused(BEYOND, "as", x -> x.as(0, 7));
        refused(KIND, "as", x -> x.as(0, 1));
        refused(BEYOND, "ofPotter", x -> x.ofPotter(3, 0));
        refused(BEYOND, "ofPotter", x -> x.ofPotter(0, 4));
        refused(BEYOND, "store", x -> x.store(3, 0, 1));
        refused(BEYOND, "store", x -> x.store(0, 3, 1));
        refused(BEYOND, "store", x -> x.store(0, 0, 1000));
        refused(BEYOND, "store", x -> x.store(0, 0, -1));
        refused(BEYOND, "stored", x -> x.stored(3, 0));
        refused(BEYOND, "stored", x -> x.stored(0, 3));
    }

    private static void textsAndLoans() {
        refused(BEYOND, "feed", x -> x.feed('m', 0));
        refused(BEYOND, "feed", x -> x.feed('m', 9));
        refused(BEYOND, "text", x -> x.text(2));
        refused(BEYOND, "text", x -> x.text(-1));
        refused(BEYOND, "law", x -> x.law(2, 0, 0, 0));
        refused(BEYOND, "lend", x -> x.lend(0, 0, 0, 1, 1));
        refused(BEYOND, "lend", x -> x.lend(3, 0, 0, 1, 1));
        refused(BEYOND, "lend", x -> x.lend(0, 3, 0, 1, 1));
        refused(BEYOND, "lend", x -> x.lend(0, 1, 3, 1, 1));
        refused(BEYOND, "lend", x -> x.lend(0, 1, 0, 0, 1));
        refused(BEYOND, "lend", x -> x.lend(0, 1, 0, 100, 1));
        refused(BEYOND, "lend", x -> x.lend(0, 1, 0, 1, 0));
        refused(BEYOND, "lend", x -> x.lend(0, 1, 0, 1, 61));
        refused(STATE, "lend, too few", x -> x.lend(0, 1, 2, 99, 1));
        refused(STATE, "lend, too many", x -> x.lend(0, 2, 0, 60, 1));
        refused(BEYOND, "ofLoan", x -> x.ofLoan(3, 0));
        refused(BEYOND, "ofLoan", x -> x.ofLoan(0, 5));
        refused(BEYOND, "back", x -> x.back(3));
        refused(BEYOND, "back", x -> x.back(-1));
        refused(STATE, "back", x -> x.back(2));
        refused(BEYOND, "fire", x -> x.fire(3, 1, 0));
        refused(BEYOND, "fire", x -> x.fire(0, 1000, 0));
        refused(BEYOND, "fire", x -> x.fire(0, -1, 0));
        refused(BEYOND, "fire", x -> x.fire(0, 1, 10));
        refused(NONE, "fire", x -> x.fire(0, 0, 0));
        refused(KIND, "fire, YEW", x -> x.fire(0, 11, 8));
        refused(KIND, "fire, DUNG", x -> x.fire(0, 111, 0));
        refused(STATE, "fire", x -> {
            x.store(0, 1, 8);
            int got = x.fire(0, 91, 0);
            x.store(0, 1, 101);
            return got;
        });
        refused(BEYOND, "days", x -> x.days(0));
        refused(BEYOND, "days", x -> x.days(61));
        refused(BEYOND, "loose", x -> x.loose(0));
        refused(BEYOND, "loose", x -> x.loose(41));
    }

    private static void whatWouldBe() {
        refused(BEYOND, "colour", x -> x.colour(1000, 0));
        refused(BEYOND, "colour", x -> x.colour(1, 10));
        refused(KIND, "colour", x -> x.colour(100, 0));
        refused(BEYOND, "then", x -> x.then(61, 0, 0));
        refused(BEYOND, "then", x -> x.then(1, 3, 0));
        refused(BEYOND, "then", x -> x.then(1, 0, 3));
        refused(BEYOND, "breaks", x -> x.breaks(3));
        refused(NONE, "breaks", x -> x.breaks(0));
        refused(BEYOND, "recipe", x -> x.recipe(3, 0, 0));
        refused(BEYOND, "recipe", x -> x.recipe(0, 10, 0));
        refused(BEYOND, "recipe", x -> x.recipe(0, 0, 10));
        refused(NONE, "recipe", x -> x.recipe(0, 9, 8));
        refused(BEYOND, "heats", x -> x.heats(1000, 0));
        refused(BEYOND, "heats", x -> x.heats(1, 10));
        refused(BEYOND, "burnt", x -> x.burnt(4));
        refused(NONE, "burnt, missing", x -> x.burnt(3));
        refused(NONE, "burnt, more", x -> x.burnt(2));
        refused(BEYOND, "lender", x -> x.lender(3, 0, 1, 1));
        refused(BEYOND, "lender", x -> x.lender(0, 3, 1, 1));
        refused(BEYOND, "lender", x -> x.lender(0, 0, 100, 1));
        refused(BEYOND, "lender", x -> x.lender(0, 0, 1, 21));
        refused(NONE, "lender", x -> x.lender(2, 0, 99, 1));
        refused(BEYOND, "odds", x -> x.odds(1000, 0, 0));
        refused(BEYOND, "odds", x -> x.odds(1, 10, 0));
        refused(BEYOND, "odds", x -> x.odds(1, 0, 2));
    }

    private static void theRest() {
        refused(BEYOND, "voice", x -> x.voice(3, 0, 0));
        refused(BEYOND, "voice", x -> x.voice(0, 4, 0));
        refused(NONE, "trace", x -> x.trace(40));
        refused(NONE, "trace", x -> x.trace(-1));
        refused(BEYOND, "sheet", x -> x.sheet(4, 8, 1));
        refused(BEYOND, "sheet", x -> x.sheet(0, 9, 1));
        refused(STATE, "sheet", x -> x.sheet(0, 16, -1));
        refused(BEYOND, "sheet", x -> x.sheet(0, 16, 41));
        refused(BEYOND, "put", x -> x.put(4, 0, 9));
        refused(NONE, "put", x -> x.put(3, 0, 9));
        refused(BEYOND, "put", x -> x.put(0, 5, 9));
        refused(BEYOND, "put", x -> x.put(0, -1, 9));
        refused(BEYOND, "move", x -> x.move(4, 0, 0, 0, 1));
        refused(BEYOND, "move", x -> x.move(0, 0, 4, 0, 1));
        refused(NONE, "move", x -> x.move(0, 0, 3, 0, 1));
        refused(NONE, "move", x -> x.move(3, 0, 0, 0, 1));
        refused(KIND, "move", x -> x.move(0, 0, 1, 0, 1));
        refused(BEYOND, "move", x -> x.move(0, 1, 2, 0, 5));
        refused(BEYOND, "move", x -> x.move(2, 0, 0, 1, 5));
        refused(BEYOND, "move", x -> x.move(0, 0, 2, 0, -1));
        refused(BEYOND, "hedges", x -> x.hedges(4));
        refused(NONE, "hedges", x -> x.hedges(3));
        refused(BEYOND, "judge", x -> x.judge(4));
        refused(NONE, "judge", x -> x.judge(3));
        refused(NONE, "restore", x -> x.restore());
        refused(BEYOND, "count", x -> x.count(10));
        refused(BEYOND, "told", x -> x.told(6));
    }

    private static void full(int k) {
        refused(k, "ash", x -> x.ash(0));
        refused(k, "potter", x -> x.potter());
        refused(k, "feed", x -> x.feed(0x312B31, 3));
        refused(k, "lend", x -> x.lend(0, 1, 0, 1, 1));
        refused(k, "lender", x -> x.lender(1, 0, 1, 1));
        refused(k, "tell", x -> x.tell(9));
    }

    private static void onlyThought() {
        thought("ofAsh", x -> x.ofAsh(1, 4));
        thought("as", x -> x.as(1, 1));
        thought("ofPotter", x -> x.ofPotter(0, 3));
        thought("stored", x -> x.stored(0, 0));
        thought("law", x -> x.law(0, 1, 2, 3));
        thought("ofLoan", x -> x.ofLoan(0, 4));
        thought("colour", x -> x.colour(11, 7));
        thought("then", x -> x.then(60, 1, -1));
        thought("then", x -> x.then(60, 1, 2));
        thought("breaks", x -> x.breaks(1));
        thought("recipe", x -> x.recipe(0, 5, 0));
        thought("heats", x -> x.heats(11, 5));
        thought("burnt", x -> x.burnt(0));
        thought("round", x -> x.round());
        thought("lender", x -> x.lender(0, 0, 5, 20));
        thought("odds", x -> x.odds(11, 5, 1));
        thought("trace", x -> x.trace(0));
        thought("judge", x -> x.judge(0));
        thought("count", x -> x.count(4));
        thought("told", x -> x.told(1));
    }
}
