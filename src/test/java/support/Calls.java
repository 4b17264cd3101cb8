/** Every call of the document's face by its name. */
public final class Calls {
    static final String[] NAMES = {
        "ash", "ofAsh", "hedge", "become", "as", "potter", "ofPotter", "store", "stored", "feed", "text", "law",
        "lend", "ofLoan", "back", "fire", "days", "loose", "colour", "then", "breaks", "recipe", "heats", "burnt",
        "round", "lender", "odds", "seed", "voice", "trace", "sheet", "put", "move", "hedges", "judge", "image",
        "restore", "tell", "check", "count", "told",
    };

    private Calls() {
    }

    static int arity(int call) {
        return new int[] {
            1, 2, 3, 2, 2, 0, 2, 3, 2, 2, 1, 4,
            5, 2, 1, 3, 1, 1, 2, 3, 1, 3, 2, 1,
            0, 4, 3, 1, 3, 1, 3, 3, 5, 1, 1, 0,
            0, 1, 0, 1, 1,
        }[call];
    }

    static int call(AshLoans x, int call, long word, int a, int b, int c, int d, int e) {
        switch (call) {
            case 0: return x.ash(a);
            case 1: return x.ofAsh(a, b);
            case 2: return x.hedge(a, b, c);
            case 3: return x.become(a, b);
            case 4: return x.as(a, b);
            case 5: return x.potter();
            case 6: return x.ofPotter(a, b);
            case 7: return x.store(a, b, c);
            case 8: return x.stored(a, b);
            case 9: return x.feed(word, b);
            case 10: return x.text(a);
            case 11: return x.law(a, b, c, d);
            case 12: return x.lend(a, b, c, d, e);
            case 13: return x.ofLoan(a, b);
            case 14: return x.back(a);
            case 15: return x.fire(a, b, c);
            case 16: return x.days(a);
            case 17: return x.loose(a);
            case 18: return x.colour(a, b);
            case 19: return x.then(a, b, c);
            case 20: return x.breaks(a);
            case 21: return x.recipe(a, b, c);
            case 22: return x.heats(a, b);
            case 23: return x.burnt(a);
            case 24: return x.round();
            case 25: return x.lender(a, b, c, d);
            case 26: return x.odds(a, b, c);
            case 27: return x.seed(a);
            case 28: return x.voice(a, b, c);
            case 29: return x.trace(a);
            case 30: return x.sheet(a, b, c);
            case 31: return x.put(a, b, c);
            case 32: return x.move(a, b, c, d, e);
            case 33: return x.hedges(a);
            case 34: return x.judge(a);
            case 35: return x.image();
            case 36: return x.restore();
            case 37: return x.tell(a);
            case 38: return x.check();
            case 39: return x.count(a);
            default: return x.told(a);
        }
    }
}
