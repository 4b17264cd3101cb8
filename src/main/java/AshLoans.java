/**
 * The potters' county in which ash is lent: ../shared/DOC.md tells what each call does.
 * Every row is made in the constructor and used again, so that no call makes an object.
 */
public final class AshLoans {
    private static final int LOW = -1000000000;
    private static final int BEYOND = 1;
    private static final int NONE = 2;
    private static final int STATE = 3;
    private static final int FULL = 4;
    private static final int KIND = 5;

    private static final int MOST_ASHES = 5;
    private static final int MOST_POTTERS = 4;
    private static final int MOST_LOANS = 10;
    private static final int MOST_SHEETS = 4;
    private static final int MOST_NUMBERS = 40;
    private static final int MOST_WAITING = 20;
    private static final int MOST_TRACED = 40;
    private static final int MOST_BUSHELS = 999;
    private static final int MOST_POTS = 9999;
    private static final int MOST_BROKEN = 99;
    private static final int MOST_LENT = 99;
    private static final int MOST_GIVEN = 99;
    private static final int LAST_DAY = 9999;
    private static final int FORESIGHT = 60;
    private static final int HEATS = 10;
    private static final int COLOURS = 10;
    private static final int RECIPE_BUSHELS = 3;
    private static final int TAPE_SIZE = 50;
    private static final int MOST_OPEN = 5;

    private static final int ASH = 0;
    private static final int BIRCH = 1;
    private static final int OAK = 2;
    private static final int STRAW = 3;
    private static final int YEW = 4;
    private static final int REED = 5;
    private static final int DUNG = 6;
    private static final int KINDS = 7;
    /** The KIND above each KIND; below 0: none is. */
    private static final int[] ABOVE = {-1, ASH, ASH, ASH, BIRCH, OAK, STRAW};

    private static final int COLOUR_LAW = 0;
    private static final int BACK_LAW = 1;
    private static final int LAWS = 2;
    private static final int NAMES_EACH = 3;
    /** The NAMES of each USE, three by three. */
    private static final char[] NAMES = {'m', 'k', 'h', 'n', 'm', 'd'};

    /** A COLOUR that no MIX has: the MIX may not be burnt. */
    private static final int FORBIDDEN = -1;
    /** 10 to the number of ASHES: the first number that tells BUSHELS of no ASH. */
    private static final int[] POWERS = {1, 10, 100, 1000, 10000, 100000};

    private final State now = new State();
    private final State kept = new State();
    private final County thought = new County();
    private final Reader reader = new Reader();
    private final Voices voices = new Voices();
    private final Sheet[] sheets = new Sheet[MOST_SHEETS];
    private final int[] errors = new int[KIND + 1];
    private final int[] shades = new int[MOST_ASHES];
    private final int[] limits = new int[MOST_ASHES];
    private int images;

    public AshLoans() {
        for (int i = 0; i < MOST_SHEETS; i++) {
            sheets[i] = new Sheet();
        }
    }

    // ---- ashes, potters

    public int ash(int km) {
        County county = now.county;
        if (!isKindAndNumber(km)) {
            return fail(BEYOND);
        }
        if (county.ashCount >= MOST_ASHES) {
            return fail(FULL);
        }
        county.ashes[county.ashCount].begin(km);
        county.ashCount++;
        return county.ashCount - 1;
    }

    public int ofAsh(int ash, int what) {
        if (!now.county.hasAsh(ash)) {
            return fail(BEYOND);
        }
        Ash asked = now.county.ashes[ash];
        switch (what) {
            case 0: return asked.kind;
            case 1: return asked.m;
            case 2: return asked.growth;
            case 3: return asked.goesTo;
            case 4: return now.county.bushelsOfAll(ash);
            default: return fail(BEYOND);
        }
    }

    public int hedge(int ash, int what, int v) {
        if (!now.county.hasAsh(ash) || !within(what, 0, 1) || !within(v, 0, what == 0 ? 9 : MOST_POTTERS - 1)) {
            return fail(BEYOND);
        }
        Ash changed = now.county.ashes[ash];
        int was;
        if (what == 0) {
            was = changed.growth;
            changed.growth = v;
        } else {
            was = changed.goesTo;
            changed.goesTo = v;
        }
        return was;
    }

    public int become(int ash, int km) {
        if (!now.county.hasAsh(ash) || !isKindAndNumber(km)) {
            return fail(BEYOND);
        }
        Ash changed = now.county.ashes[ash];
        int was = changed.kind;
        changed.kind = km / 10;
        changed.m = km % 10;
        return was;
    }

    public int as(int ash, int kind) {
        if (!now.county.hasAsh(ash) || !within(kind, 0, KINDS - 1)) {
            return fail(BEYOND);
        }
        Ash seen = now.county.ashes[ash];
        if (!isUnder(seen.kind, kind)) {
            return fail(KIND);
        }
        return seen.m;
    }

    public int potter() {
        County county = now.county;
        if (county.potterCount >= MOST_POTTERS) {
            return fail(FULL);
        }
        county.potters[county.potterCount].begin();
        county.potterCount++;
        return county.potterCount - 1;
    }

    public int ofPotter(int potter, int what) {
        if (!now.county.hasPotter(potter)) {
            return fail(BEYOND);
        }
        switch (what) {
            case 0: return now.county.potters[potter].pots;
            case 1: return now.county.potters[potter].broken;
            case 2: return now.county.loansHeldBy(potter);
            case 3: return now.county.owedTo(potter);
            default: return fail(BEYOND);
        }
    }

    public int store(int potter, int ash, int v) {
        if (!now.county.hasPotter(potter) || !now.county.hasAsh(ash) || !within(v, 0, MOST_BUSHELS)) {
            return fail(BEYOND);
        }
        int[] bushels = now.county.potters[potter].bushels;
        int was = bushels[ash];
        bushels[ash] = v;
        return was;
    }

    public int stored(int potter, int ash) {
        if (!now.county.hasPotter(potter) || !now.county.hasAsh(ash)) {
            return fail(BEYOND);
        }
        return now.county.potters[potter].bushels[ash];
    }

    // ---- texts

    public int feed(long word, int n) {
        if (!within(n, 1, 8)) {
            return fail(BEYOND);
        }
        if (now.tapeCount + n > TAPE_SIZE) {
            return fail(FULL);
        }
        for (int i = 0; i < n; i++) {
            now.tape[now.tapeCount + i] = (int) (word >>> (8 * i)) & 255;
        }
        now.tapeCount += n;
        return now.tapeCount;
    }

    public int text(int use) {
        if (!isUse(use)) {
            return fail(BEYOND);
        }
        boolean whole = reader.reads(now.tape, now.tapeCount, use);
        now.tapeCount = 0;
        if (!whole) {
            return -10 - reader.place;
        }
        now.laws[use].take(reader.code, reader.size);
        return 1;
    }

    public int law(int use, int a, int b, int c) {
        if (!isUse(use)) {
            return fail(BEYOND);
        }
        return now.laws[use].gives(a, b, c);
    }

    // ---- loans, firings, days

    public int lend(int from, int to, int ash, int n, int d) {
        County county = now.county;
        boolean potters = county.hasPotter(from) && county.hasPotter(to) && from != to;
        if (!potters || !county.hasAsh(ash) || !within(n, 1, MOST_LENT) || !within(d, 1, 60)) {
            return fail(BEYOND);
        }
        if (!county.canLend(from, to, ash, n)) {
            return fail(STATE);
        }
        if (county.loanCount >= MOST_LOANS) {
            return fail(FULL);
        }
        county.addLoan(from, to, ash, n, d);
        return county.loanCount - 1;
    }

    public int ofLoan(int loan, int what) {
        if (!now.county.hasLoan(loan)) {
            return fail(BEYOND);
        }
        Loan asked = now.county.loans[loan];
        switch (what) {
            case 0: return asked.from;
            case 1: return asked.to;
            case 2: return asked.ash;
            case 3: return asked.bushels;
            case 4: return asked.due;
            default: return fail(BEYOND);
        }
    }

    public int back(int loan) {
        County county = now.county;
        if (!county.hasLoan(loan)) {
            return fail(BEYOND);
        }
        if (!county.canGiveBack(county.loans[loan])) {
            return fail(STATE);
        }
        return county.giveBack(loan, now.laws[BACK_LAW]);
    }

    public int fire(int potter, int mix, int heat) {
        County county = now.county;
        if (!county.hasPotter(potter) || !isMix(mix) || !isHeat(heat)) {
            return fail(BEYOND);
        }
        if (mix == 0) {
            return fail(NONE);
        }
        Potter burner = county.potters[potter];
        if (!burner.has(mix)) {
            return fail(STATE);
        }
        int colour = colourOfMix(mix, heat);
        if (colour == FORBIDDEN) {
            return fail(KIND);
        }
        burner.burn(mix);
        return colour;
    }

    public int days(int n) {
        if (!within(n, 1, 60)) {
            return fail(BEYOND);
        }
        if (now.county.day + n > LAST_DAY) {
            return fail(STATE);
        }
        now.county.passDays(n, now.laws[BACK_LAW]);
        return now.county.loanCount;
    }

    public int loose(int n) {
        if (!within(n, 1, 40)) {
            return fail(BEYOND);
        }
        if (now.county.day + n > LAST_DAY) {
            return fail(STATE);
        }
        for (int i = 0; i < n; i++) {
            drawHedge();
            now.county.passDays(1, now.laws[BACK_LAW]);
        }
        return now.county.loanCount;
    }

    // ---- what would be

    public int colour(int mix, int heat) {
        if (!isMix(mix) || !isHeat(heat)) {
            return fail(BEYOND);
        }
        int colour = colourOfMix(mix, heat);
        return colour == FORBIDDEN ? fail(KIND) : colour;
    }

    public int then(int n, int potter, int what) {
        if (!within(n, 0, FORESIGHT) || !now.county.hasPotter(potter)) {
            return fail(BEYOND);
        }
        if (what != -1 && !now.county.hasAsh(what)) {
            return fail(BEYOND);
        }
        thought.copy(now.county);
        thought.passDays(n, now.laws[BACK_LAW]);
        Potter asked = thought.potters[potter];
        return what == -1 ? asked.broken : asked.bushels[what];
    }

    public int breaks(int potter) {
        if (!now.county.hasPotter(potter)) {
            return fail(BEYOND);
        }
        thought.copy(now.county);
        for (int day = 1; day <= FORESIGHT; day++) {
            thought.passDays(1, now.laws[BACK_LAW]);
            if (thought.potters[potter].broken > now.county.potters[potter].broken) {
                return day;
            }
        }
        return fail(NONE);
    }

    public int recipe(int potter, int colour, int heat) {
        if (!now.county.hasPotter(potter) || !isColour(colour) || !isHeat(heat)) {
            return fail(BEYOND);
        }
        prepareRecipes(now.county.potters[potter], heat);
        int best = fewestFor(colour);
        return best == 0 ? fail(NONE) : best;
    }

    public int heats(int mix, int colour) {
        if (!isMix(mix) || !isColour(colour)) {
            return fail(BEYOND);
        }
        return heatsGiving(mix, colour);
    }

    public int burnt(int sheet) {
        if (!isSheet(sheet)) {
            return fail(BEYOND);
        }
        if (sheets[sheet].isMissing() || sheets[sheet].size > HEATS) {
            return fail(NONE);
        }
        int set = 0;
        for (int ash = 0; ash < now.county.ashCount; ash++) {
            if (canHaveGiven(now.county.ashes[ash], sheets[sheet])) {
                set |= 1 << ash;
            }
        }
        return set;
    }

    public int round() {
        County county = now.county;
        int bushels = 0;
        for (int ash = 0; ash < county.ashCount; ash++) {
            for (int b = 1; b < county.potterCount; b++) {
                for (int a = 0; a < b; a++) {
                    bushels += Math.min(county.lentBetween(a, b, ash), county.lentBetween(b, a, ash));
                }
            }
        }
        return bushels;
    }

    public int lender(int to, int ash, int n, int d) {
        County county = now.county;
        boolean there = county.hasPotter(to) && county.hasAsh(ash);
        if (!there || !within(n, 1, MOST_LENT) || !within(d, 1, 20)) {
            return fail(BEYOND);
        }
        if (county.loanCount >= MOST_LOANS) {
            return fail(FULL);
        }
        int best = -1;
        int fewest = 0;
        for (int from = 0; from < county.potterCount; from++) {
            if (from != to && county.canLend(from, to, ash, n)) {
                thought.copy(county);
                thought.addLoan(from, to, ash, n, d);
                thought.passDays(FORESIGHT, now.laws[BACK_LAW]);
                int broken = thought.brokenOfAll();
                if (best < 0 || broken < fewest) {
                    best = from;
                    fewest = broken;
                }
            }
        }
        return best < 0 ? fail(NONE) : best;
    }

    public int odds(int mix, int colour, int part) {
        if (!isMix(mix) || !isColour(colour) || !within(part, 0, 1)) {
            return fail(BEYOND);
        }
        int above = Integer.bitCount(heatsGiving(mix, colour));
        int divisor = commonDivisor(above, HEATS);
        return part == 0 ? above / divisor : HEATS / divisor;
    }

    // ---- draws, voices, sheets, images, what is told

    public int seed(int v) {
        int was = now.z;
        now.z = v;
        return was;
    }

    public int voice(int ash, int act, int x) {
        if (!now.county.hasAsh(ash) || !within(act, 0, Voices.ACTS - 1)) {
            return fail(BEYOND);
        }
        return voices.speak(now.county.ashes[ash], ash, act, x);
    }

    public int trace(int i) {
        if (!within(i, 0, voices.traced - 1)) {
            return fail(NONE);
        }
        return voices.bodies[i];
    }

    public int sheet(int sheet, int bits, int n) {
        boolean isWidth = bits == 0 || bits == 8 || bits == 16 || bits == 32;
        if (!isSheet(sheet) || !isWidth) {
            return fail(BEYOND);
        }
        if (bits != 0 && n < 0) {
            return fail(STATE);
        }
        if (bits != 0 && n > MOST_NUMBERS) {
            return fail(BEYOND);
        }
        sheets[sheet].begin(bits, bits == 0 ? 0 : n);
        return 1;
    }

    public int put(int sheet, int i, int v) {
        if (!isSheet(sheet)) {
            return fail(BEYOND);
        }
        if (sheets[sheet].isMissing()) {
            return fail(NONE);
        }
        if (!within(i, 0, sheets[sheet].size - 1)) {
            return fail(BEYOND);
        }
        sheets[sheet].write(i, v);
        return 1;
    }

    public int move(int sheet, int i, int other, int j, int n) {
        if (!isSheet(sheet) || !isSheet(other)) {
            return fail(BEYOND);
        }
        Sheet source = sheets[sheet];
        Sheet target = sheets[other];
        if (source.isMissing() || target.isMissing()) {
            return fail(NONE);
        }
        if (source.bits != target.bits) {
            return fail(KIND);
        }
        if (!source.holds(i, n) || !target.holds(j, n)) {
            return fail(BEYOND);
        }
        System.arraycopy(source.numbers, i, target.numbers, j, n);
        return n;
    }

    public int hedges(int sheet) {
        if (!isSheet(sheet)) {
            return fail(BEYOND);
        }
        Sheet read = sheets[sheet];
        if (read.isMissing()) {
            return fail(NONE);
        }
        int most = Math.min(read.size, now.county.ashCount);
        for (int i = 0; i < most; i++) {
            if (!within(read.numbers[i], 0, 9)) {
                return i;
            }
            now.county.ashes[i].growth = read.numbers[i];
        }
        return most;
    }

    public int judge(int sheet) {
        if (!isSheet(sheet)) {
            return fail(BEYOND);
        }
        Sheet read = sheets[sheet];
        if (read.isMissing()) {
            return fail(NONE);
        }
        int both = Math.min(read.size, now.county.loanCount);
        for (int i = 0; i < both; i++) {
            if (read.numbers[i] != now.county.loans[i].bushels) {
                return i;
            }
        }
        return read.size == now.county.loanCount ? -1 : both;
    }

    public int image() {
        kept.copy(now);
        images++;
        return images;
    }

    public int restore() {
        if (images == 0) {
            return fail(NONE);
        }
        now.copy(kept);
        return now.county.day;
    }

    public int tell(int v) {
        if (now.waitingCount >= MOST_WAITING) {
            return fail(FULL);
        }
        now.waiting[now.waitingCount] = v;
        now.waitingCount++;
        return now.waitingCount;
    }

    public int check() {
        int numbers = now.waitingCount;
        now.waitingCount = 0;
        thought.copy(now.county);
        for (int i = 0; i < numbers; i++) {
            thought.passDays(1, now.laws[BACK_LAW]);
            if (thought.loanCount != now.waiting[i]) {
                return 1 + i;
            }
        }
        return 0;
    }

    public int count(int what) {
        switch (what) {
            case 0: return now.county.ashCount;
            case 1: return now.county.potterCount;
            case 2: return now.county.loanCount;
            case 3: return now.county.day;
            case 4: return now.county.potsOfAll();
            case 5: return now.county.brokenOfAll();
            case 6: return now.tapeCount;
            case 7: return now.waitingCount;
            case 8: return voices.traced;
            case 9: return now.z;
            default: return fail(BEYOND);
        }
    }

    public int told(int k) {
        if (!within(k, BEYOND, KIND)) {
            return fail(BEYOND);
        }
        return errors[k];
    }

    // ---- what the calls share

    private int fail(int k) {
        if (within(k, BEYOND, KIND)) {
            errors[k]++;
        }
        return LOW - k;
    }

    private static boolean within(int v, int least, int most) {
        return v >= least && v <= most;
    }

    private static int held(int v, int most) {
        return v < 0 ? 0 : v > most ? most : v;
    }

    private static boolean isKindAndNumber(int km) {
        return within(km, 0, 10 * KINDS - 1);
    }

    private static boolean isUse(int use) {
        return within(use, 0, LAWS - 1);
    }

    private static boolean isHeat(int heat) {
        return within(heat, 0, HEATS - 1);
    }

    private static boolean isColour(int colour) {
        return within(colour, 0, COLOURS - 1);
    }

    private static boolean isSheet(int sheet) {
        return within(sheet, 0, MOST_SHEETS - 1);
    }

    private boolean isMix(int mix) {
        return within(mix, 0, POWERS[held(now.county.ashCount, MOST_ASHES)] - 1);
    }

    private static boolean isUnder(int kind, int other) {
        int at = kind;
        for (int steps = 0; steps < KINDS && within(at, 0, KINDS - 1); steps++) {
            if (at == other) {
                return true;
            }
            at = ABOVE[at];
        }
        return false;
    }

    private static int commonDivisor(int a, int b) {
        for (int d = b; d > 1; d--) {
            if (a % d == 0 && b % d == 0) {
                return d;
            }
        }
        return 1;
    }

    private int draw() {
        now.z = now.z * 1103515245 + 12345;
        return now.z >>> 8;
    }

    private void drawHedge() {
        int ashes = now.county.ashCount;
        if (ashes > 0) {
            int ash = draw() % ashes;
            now.county.ashes[ash].growth = draw() % 10;
        }
    }

    private int colourOfAsh(Ash ash, int heat) {
        int v = now.laws[COLOUR_LAW].gives(ash.m, ash.kind, heat);
        int straw = heat < 5 ? v : ash.m;
        switch (ash.kind) {
            case BIRCH: return v + 1;
            case OAK: return v * 2;
            case STRAW: return straw;
            case YEW: return v + 1 + heat;
            case REED: return v * 2 - ash.m;
            case DUNG: return 9 - straw;
            default: return v;
        }
    }

    private static int restByTen(int sum) {
        int rest = sum % COLOURS;
        return rest < 0 ? rest + COLOURS : rest;
    }

    /** The COLOUR of a MIX that tells BUSHELS of ASHES alone that there are, or FORBIDDEN. */
    private int colourOfMix(int mix, int heat) {
        int sum = 0;
        int left = mix;
        for (int i = 0; i < now.county.ashCount; i++) {
            int bushels = left % 10;
            left /= 10;
            Ash ash = now.county.ashes[i];
            if (bushels > 0 && ash.isForbiddenAt(heat)) {
                return FORBIDDEN;
            }
            sum += bushels * colourOfAsh(ash, heat);
        }
        return restByTen(sum);
    }

    private int heatsGiving(int mix, int colour) {
        int set = 0;
        for (int heat = 0; heat < HEATS; heat++) {
            if (colourOfMix(mix, heat) == colour) {
                set |= 1 << heat;
            }
        }
        return set;
    }

    /** A COLOUR that an ASH gave is told, FORBIDDEN or not: what may not be burnt can have been. */
    private boolean canHaveGiven(Ash ash, Sheet colours) {
        for (int heat = 0; heat < colours.size; heat++) {
            int told = colours.numbers[heat];
            if (told >= 0 && told != restByTen(colourOfAsh(ash, heat))) {
                return false;
            }
        }
        return true;
    }

    /** Works out once what all MIXES share: the COLOUR of each ASH, and how much of it may go in. */
    private void prepareRecipes(Potter potter, int heat) {
        for (int i = 0; i < now.county.ashCount; i++) {
            Ash ash = now.county.ashes[i];
            shades[i] = colourOfAsh(ash, heat);
            limits[i] = ash.isForbiddenAt(heat) ? 0 : Math.min(RECIPE_BUSHELS, potter.bushels[i]);
        }
    }

    /** The MIX of fewest BUSHELS, the least of several (they are met from the least on); 0: there is none. */
    private int fewestFor(int colour) {
        int ashes = now.county.ashCount;
        int choices = 1 << (2 * ashes);
        int best = 0;
        int fewest = 0;
        for (int choice = 1; choice < choices; choice++) {
            int bushels = bushelsOfChoice(choice);
            if (bushels > 0 && (best == 0 || bushels < fewest) && colourOfChoice(choice) == colour) {
                best = mixOfChoice(choice);
                fewest = bushels;
            }
        }
        return best;
    }

    /** A choice tells BUSHELS (0 to 3) of ASHES by two bits each; 0, if there are not so many. */
    private int bushelsOfChoice(int choice) {
        int all = 0;
        for (int i = 0; i < now.county.ashCount; i++) {
            int bushels = (choice >> (2 * i)) & 3;
            if (bushels > limits[i]) {
                return 0;
            }
            all += bushels;
        }
        return all;
    }

    private int colourOfChoice(int choice) {
        int sum = 0;
        for (int i = 0; i < now.county.ashCount; i++) {
            sum += ((choice >> (2 * i)) & 3) * shades[i];
        }
        return restByTen(sum);
    }

    private int mixOfChoice(int choice) {
        int mix = 0;
        for (int i = 0; i < now.county.ashCount; i++) {
            mix += ((choice >> (2 * i)) & 3) * POWERS[i];
        }
        return mix;
    }

    private static final class Ash {
        int kind;
        int m;
        int growth;
        int goesTo;

        void begin(int km) {
            kind = km / 10;
            m = km % 10;
            growth = 0;
            goesTo = 0;
        }

        void copy(Ash other) {
            kind = other.kind;
            m = other.m;
            growth = other.growth;
            goesTo = other.goesTo;
        }

        boolean isForbiddenAt(int heat) {
            return kind == YEW && heat >= 8 || kind == DUNG && m == 0;
        }
    }

    private static final class Potter {
        final int[] bushels = new int[MOST_ASHES];
        int pots;
        int broken;

        void begin() {
            for (int i = 0; i < MOST_ASHES; i++) {
                bushels[i] = 0;
            }
            pots = 0;
            broken = 0;
        }

        void copy(Potter other) {
            System.arraycopy(other.bushels, 0, bushels, 0, MOST_ASHES);
            pots = other.pots;
            broken = other.broken;
        }

        boolean has(int mix) {
            int left = mix;
            for (int i = 0; i < MOST_ASHES; i++) {
                if (left % 10 > bushels[i]) {
                    return false;
                }
                left /= 10;
            }
            return true;
        }

        void burn(int mix) {
            int left = mix;
            for (int i = 0; i < MOST_ASHES; i++) {
                bushels[i] -= left % 10;
                left /= 10;
            }
            pots = held(pots + 1, MOST_POTS);
        }

        void change(int ash, int by) {
            bushels[ash] = held(bushels[ash] + by, MOST_BUSHELS);
        }
    }

    private static final class Loan {
        int from;
        int to;
        int ash;
        int bushels;
        int due;

        void copy(Loan other) {
            from = other.from;
            to = other.to;
            ash = other.ash;
            bushels = other.bushels;
            due = other.due;
        }
    }

    /** All that a DAY changes, so that days can be thought on a copy of it. */
    private static final class County {
        final Ash[] ashes = new Ash[MOST_ASHES];
        final Potter[] potters = new Potter[MOST_POTTERS];
        final Loan[] loans = new Loan[MOST_LOANS];
        int ashCount;
        int potterCount;
        int loanCount;
        int day;

        County() {
            for (int i = 0; i < MOST_ASHES; i++) {
                ashes[i] = new Ash();
            }
            for (int i = 0; i < MOST_POTTERS; i++) {
                potters[i] = new Potter();
            }
            for (int i = 0; i < MOST_LOANS; i++) {
                loans[i] = new Loan();
            }
        }

        void copy(County other) {
            ashCount = other.ashCount;
            potterCount = other.potterCount;
            loanCount = other.loanCount;
            day = other.day;
            for (int i = 0; i < ashCount; i++) {
                ashes[i].copy(other.ashes[i]);
            }
            for (int i = 0; i < potterCount; i++) {
                potters[i].copy(other.potters[i]);
            }
            for (int i = 0; i < loanCount; i++) {
                loans[i].copy(other.loans[i]);
            }
        }

        boolean hasAsh(int number) {
            return within(number, 0, ashCount - 1);
        }

        boolean hasPotter(int number) {
            return within(number, 0, potterCount - 1);
        }

        boolean hasLoan(int number) {
            return within(number, 0, loanCount - 1);
        }

        int bushelsOfAll(int ash) {
            int all = 0;
            for (int i = 0; i < potterCount; i++) {
                all += potters[i].bushels[ash];
            }
            return all;
        }

        int potsOfAll() {
            int all = 0;
            for (int i = 0; i < potterCount; i++) {
                all += potters[i].pots;
            }
            return all;
        }

        int brokenOfAll() {
            int all = 0;
            for (int i = 0; i < potterCount; i++) {
                all += potters[i].broken;
            }
            return all;
        }

        int loansHeldBy(int potter) {
            int all = 0;
            for (int i = 0; i < loanCount; i++) {
                all += loans[i].to == potter ? 1 : 0;
            }
            return all;
        }

        int owedTo(int potter) {
            int all = 0;
            for (int i = 0; i < loanCount; i++) {
                all += loans[i].from == potter ? loans[i].bushels : 0;
            }
            return all;
        }

        int lentBetween(int from, int to, int ash) {
            int all = 0;
            for (int i = 0; i < loanCount; i++) {
                Loan loan = loans[i];
                all += loan.from == from && loan.to == to && loan.ash == ash ? loan.bushels : 0;
            }
            return all;
        }

        boolean canLend(int from, int to, int ash, int n) {
            return potters[from].bushels[ash] >= n && potters[to].bushels[ash] + n <= MOST_BUSHELS;
        }

        void addLoan(int from, int to, int ash, int n, int d) {
            if (loanCount >= MOST_LOANS) {
                return;
            }
            Loan loan = loans[loanCount];
            loan.from = from;
            loan.to = to;
            loan.ash = ash;
            loan.bushels = n;
            loan.due = day + d;
            loanCount++;
            potters[from].change(ash, -n);
            potters[to].change(ash, n);
        }

        boolean canGiveBack(Loan loan) {
            return potters[loan.to].bushels[loan.ash] >= loan.bushels;
        }

        int giveBack(int number, Law law) {
            Loan loan = loans[number];
            int given = law.gives(loan.bushels, ashes[loan.ash].m, day);
            potters[loan.to].change(loan.ash, -loan.bushels);
            potters[loan.from].change(loan.ash, given);
            drop(number);
            return given;
        }

        void breakOff(int number) {
            Potter potter = potters[loans[number].to];
            potter.broken = held(potter.broken + 1, MOST_BROKEN);
            drop(number);
        }

        /** The row of the loan that is gone goes behind the others, to be used again. */
        void drop(int number) {
            Loan gone = loans[number];
            for (int i = number + 1; i < loanCount; i++) {
                loans[i - 1] = loans[i];
            }
            loanCount--;
            loans[loanCount] = gone;
        }

        void passDays(int n, Law law) {
            for (int i = 0; i < n; i++) {
                day++;
                growHedges();
                settleLoans(law);
            }
        }

        void growHedges() {
            for (int i = 0; i < ashCount; i++) {
                Ash ash = ashes[i];
                if (hasPotter(ash.goesTo)) {
                    potters[ash.goesTo].change(i, ash.growth);
                }
            }
        }

        void settleLoans(Law law) {
            int all = loanCount;
            int number = 0;
            for (int seen = 0; seen < all && hasLoan(number); seen++) {
                if (loans[number].due != day) {
                    number++;
                } else if (canGiveBack(loans[number])) {
                    giveBack(number, law);
                } else {
                    breakOff(number);
                }
            }
        }
    }

    /** What an IMAGE keeps. */
    private static final class State {
        final County county = new County();
        final Law[] laws = new Law[LAWS];
        final int[] tape = new int[TAPE_SIZE];
        final int[] waiting = new int[MOST_WAITING];
        int tapeCount;
        int waitingCount;
        int z = 1;

        State() {
            for (int use = 0; use < LAWS; use++) {
                laws[use] = new Law(use);
            }
        }

        void copy(State other) {
            county.copy(other.county);
            for (int use = 0; use < LAWS; use++) {
                laws[use].take(other.laws[use].code, other.laws[use].size);
            }
            System.arraycopy(other.tape, 0, tape, 0, TAPE_SIZE);
            System.arraycopy(other.waiting, 0, waiting, 0, MOST_WAITING);
            tapeCount = other.tapeCount;
            waitingCount = other.waitingCount;
            z = other.z;
        }
    }

    /**
     * What a USE gives. Its TEXT is kept as a row to be worked out with a stack: a number from 0 on is
     * itself, -1 .. -3 is a NAME, a sign is its own number below 0 (all signs are 33 or more).
     */
    private static final class Law {
        final int use;
        final int[] code = new int[TAPE_SIZE];
        final int[] stack = new int[TAPE_SIZE];
        int size;

        Law(int use) {
            this.use = use;
        }

        void take(int[] other, int count) {
            size = held(count, TAPE_SIZE);
            System.arraycopy(other, 0, code, 0, size);
        }

        int gives(int a, int b, int c) {
            return held(size == 0 ? withoutText(a, c) : worth(a, b, c), MOST_GIVEN);
        }

        int withoutText(int a, int c) {
            return use == COLOUR_LAW ? a + c : a - a / 4;
        }

        int worth(int a, int b, int c) {
            int top = 0;
            for (int i = 0; i < size; i++) {
                int item = code[i];
                if (item >= -NAMES_EACH) {
                    // a row tells at most as many numbers as the stack can hold
                    if (top < TAPE_SIZE) {
                        stack[top] = item >= 0 ? item : item == -1 ? a : item == -2 ? b : c;
                        top++;
                    }
                } else if (item == -'!' && top > 0) {
                    stack[top - 1] = stack[top - 1] == 0 ? 1 : 0;
                } else if (top > 1) {
                    top--;
                    stack[top - 1] = joined(-item, stack[top - 1], stack[top]);
                }
            }
            return stack[0];
        }

        static int joined(int sign, int a, int b) {
            switch (sign) {
                case '|': return a != 0 || b != 0 ? 1 : 0;
                case '&': return a != 0 && b != 0 ? 1 : 0;
                case '<': return a < b ? 1 : 0;
                case '=': return a == b ? 1 : 0;
                case '>': return a > b ? 1 : 0;
                case '+': return a + b;
                case '-': return a - b;
                case '*': return a * b;
                case '/': return b == 0 ? 0 : a / b;
                case '%': return b == 0 ? 0 : a % b;
                default: return 0;
            }
        }
    }

    /** Reads THE TAPE as a TEXT; place tells the FAULT, if it isn't one. */
    private static final class Reader {
        static final int LOOSEST = 0;
        static final int COMPARING = 2;
        static final int PARTS = 5;
        static final int MOST_DIGITS = 4;

        final int[] bytes = new int[TAPE_SIZE];
        final int[] code = new int[TAPE_SIZE];
        int length;
        int size;
        int use;
        int place;

        boolean reads(int[] tape, int count, int forUse) {
            length = held(count, TAPE_SIZE);
            System.arraycopy(tape, 0, bytes, 0, length);
            use = forUse;
            place = 0;
            size = 0;
            return readLevel(LOOSEST, 0) && place == length;
        }

        /** What the signs of a level join (the levels of DOC.md, T to P); open are the ! and ( around it. */
        private boolean readLevel(int level, int open) {
            if (level >= PARTS) {
                return readPart(open);
            }
            if (!readLevel(level + 1, open)) {
                return false;
            }
            int most = level == COMPARING ? 1 : TAPE_SIZE;
            for (int i = 0; i < most && levelOf(next()) == level; i++) {
                int sign = next();
                place++;
                if (!readLevel(level + 1, open)) {
                    return false;
                }
                add(-sign);
            }
            return true;
        }

        private boolean readPart(int open) {
            int sign = next();
            if (isDigit(sign)) {
                return readNumber();
            }
            if (sign == '!' && open < MOST_OPEN) {
                place++;
                boolean read = readPart(open + 1);
                add(-'!');
                return read;
            }
            if (sign == '(' && open < MOST_OPEN) {
                place++;
                if (!readLevel(LOOSEST, open + 1) || next() != ')') {
                    return false;
                }
                place++;
                return true;
            }
            return readName(sign);
        }

        private boolean readNumber() {
            int number = 0;
            for (int i = 0; i < MOST_DIGITS && isDigit(next()); i++) {
                number = number * 10 + next() - '0';
                place++;
            }
            add(number);
            return true;
        }

        private boolean readName(int sign) {
            for (int i = 0; i < NAMES_EACH; i++) {
                if (NAMES[use * NAMES_EACH + i] == sign) {
                    place++;
                    add(-1 - i);
                    return true;
                }
            }
            return false;
        }

        /** The byte that is read next; -1: there is none. */
        private int next() {
            return place < length ? bytes[place] : -1;
        }

        private void add(int item) {
            if (size < TAPE_SIZE) {
                code[size] = item;
                size++;
            }
        }

        private static boolean isDigit(int sign) {
            return within(sign, '0', '9');
        }

        private static int levelOf(int sign) {
            switch (sign) {
                case '|': return 0;
                case '&': return 1;
                case '<': case '=': case '>': return 2;
                case '+': case '-': return 3;
                case '*': case '/': case '%': return 4;
                default: return -1;
            }
        }
    }

    /** The VOICES of one ASH at a time, and THE TRACE of the latest one. */
    private static final class Voices {
        static final int ACTS = 4;
        static final int BURNS = 0;
        static final int MELTS = 1;
        static final int RUNS = 2;
        static final int GLOWS = 3;
        static final int DEEPEST = 40;
        /** The number of the BODY of each KIND for each act; 0: it has none. */
        static final int[] BODIES = {
            10, 11, 12, 13,
            20, 0, 0, 0,
            0, 30, 0, 0,
            0, 0, 40, 0,
            0, 0, 0, 50,
            0, 60, 0, 0,
            0, 0, 70, 71,
        };

        final int[] bodies = new int[MOST_TRACED];
        int traced;
        int kind;
        int n;
        int m;

        int speak(Ash ash, int number, int act, int x) {
            kind = ash.kind;
            m = ash.m;
            n = number;
            traced = 0;
            return own(act, x, 0);
        }

        private int own(int act, int x, int depth) {
            return from(kind, act, x, depth);
        }

        private int above(int below, int act, int x, int depth) {
            return from(ABOVE[below], act, x, depth);
        }

        /** The BODY of a KIND for an act, or of the next KIND above that has one. */
        private int from(int first, int act, int x, int depth) {
            int at = first;
            for (int steps = 0; steps < KINDS && within(at, 0, KINDS - 1); steps++) {
                int body = BODIES[at * ACTS + act];
                if (body != 0) {
                    return depth < DEEPEST ? speakBody(body, x, depth + 1) : 0;
                }
                at = ABOVE[at];
            }
            return 0;
        }

        private int speakBody(int body, int x, int depth) {
            note(body);
            switch (body) {
                case 10: return x + n;
                case 11: return own(BURNS, x, depth) * 2;
                case 12: return x - m;
                case 13: return own(MELTS, x, depth) ^ own(RUNS, x, depth);
                case 20: return above(BIRCH, BURNS, x, depth) * 3;
                case 30: return above(OAK, MELTS, x, depth) - own(RUNS, 1, depth);
                case 40: return -above(STRAW, RUNS, x, depth);
                case 50: return above(YEW, GLOWS, x, depth) - own(BURNS, 2, depth);
                case 60: return above(REED, MELTS, x + 1, depth);
                case 70: return above(DUNG, RUNS, x, depth) ^ n;
                case 71: return own(MELTS, x, depth) - above(DUNG, GLOWS, x, depth);
                default: return 0;
            }
        }

        private void note(int body) {
            if (traced < MOST_TRACED) {
                bodies[traced] = body;
                traced++;
            }
        }
    }

    private static final class Sheet {
        final int[] numbers = new int[MOST_NUMBERS];
        int bits;
        int size;

        void begin(int width, int count) {
            bits = width;
            size = held(count, MOST_NUMBERS);
            for (int i = 0; i < size; i++) {
                numbers[i] = 0;
            }
        }

        boolean isMissing() {
            return bits == 0;
        }

        boolean holds(int i, int n) {
            return i >= 0 && n >= 0 && n <= size && i <= size - n;
        }

        void write(int i, int v) {
            numbers[i] = bits == 8 ? (byte) v : bits == 16 ? (short) v : v;
        }
    }
}
