import java.util.ArrayList;
import java.util.Arrays;
import java.util.List;
import java.util.TreeMap;

/**
 * The document once more, written as plainly as can be with the whole Java library and in other ways than the
 * class: state is copied whole, TEXTS are worked out while they are read, VOICES are real Java classes.
 */
public final class Model {
    /** What an act throws instead of answering an ERROR. */
    static final class Refused extends RuntimeException {
        final int k;

        Refused(int k) {
            super(null, null, false, false);
            this.k = k;
        }
    }

    static final class AshOf {
        int kind;
        int m;
        int hedge;
        int goes;
    }

    static final class World {
        List<AshOf> ashes = new ArrayList<>();
        List<int[]> potters = new ArrayList<>(); // 5 bushels, pots, broken
        List<int[]> loans = new ArrayList<>(); // from, to, ash, bushels, due
        int day;
        String[] texts = {null, null};
        String tape = "";
        List<Integer> waiting = new ArrayList<>();
        int z = 1;

        World copy() {
            World w = new World();
            for (AshOf a : ashes) {
                AshOf b = new AshOf();
                b.kind = a.kind;
                b.m = a.m;
                b.hedge = a.hedge;
                b.goes = a.goes;
                w.ashes.add(b);
            }
            for (int[] p : potters) {
                w.potters.add(p.clone());
            }
            for (int[] l : loans) {
                w.loans.add(l.clone());
            }
            w.day = day;
            w.texts = texts.clone();
            w.tape = tape;
            w.waiting = new ArrayList<>(waiting);
            w.z = z;
            return w;
        }

        int gives(int use, int a, int b, int c) {
            String text = texts[use];
            int v;
            if (text != null) {
                v = new TextOf(text, use, a, b, c).whole();
            } else {
                v = use == 0 ? a + c : a - a / 4;
            }
            return Math.min(99, Math.max(0, v));
        }

        int giveBack(int[] loan) {
            int v = gives(1, loan[3], ashes.get(loan[2]).m, day);
            potters.get(loan[1])[loan[2]] -= loan[3];
            int[] owner = potters.get(loan[0]);
            owner[loan[2]] = Math.min(999, owner[loan[2]] + v);
            loans.remove(loan);
            return v;
        }

        void aDay() {
            day++;
            for (int i = 0; i < ashes.size(); i++) {
                AshOf a = ashes.get(i);
                if (a.goes < potters.size()) {
                    int[] p = potters.get(a.goes);
                    p[i] = Math.min(999, p[i] + a.hedge);
                }
            }
            for (int[] loan : new ArrayList<>(loans)) {
                if (loan[4] == day) {
                    int[] p = potters.get(loan[1]);
                    if (p[loan[2]] >= loan[3]) {
                        giveBack(loan);
                    } else {
                        p[6] = Math.min(99, p[6] + 1);
                        loans.remove(loan);
                    }
                }
            }
        }

        World behind(int n) {
            World w = copy();
            for (int i = 0; i < n; i++) {
                w.aDay();
            }
            return w;
        }

        int draw() {
            z = z * 1103515245 + 12345;
            return z >>> 8;
        }
    }

    /** Works out a TEXT while it reads it; -1 as answer of read() if the whole is no TEXT. */
    static final class TextOf {
        static final class Fault extends RuntimeException {
            Fault() {
                super(null, null, false, false);
            }
        }

        final String s;
        final String names;
        final int[] values;
        int at;

        TextOf(String s, int use, int a, int b, int c) {
            this.s = s;
            this.names = use == 0 ? "mkh" : "nmd";
            this.values = new int[] {a, b, c};
        }

        static boolean isText(String s, int use) {
            try {
                new TextOf(s, use, 1, 2, 3).whole();
                return true;
            } catch (Fault fault) {
                return false;
            }
        }

        int whole() {
            int v = t(0);
            if (at != s.length()) {
                throw new Fault();
            }
            return v;
        }

        char see() {
            return at < s.length() ? s.charAt(at) : '\uffff';
        }

        int t(int open) {
            int v = a(open);
            while (see() == '|') {
                at++;
                int w = a(open);
                v = (v != 0) | (w != 0) ? 1 : 0;
            }
            return v;
        }

        int a(int open) {
            int v = b(open);
            while (see() == '&') {
                at++;
                int w = b(open);
                v = (v != 0) & (w != 0) ? 1 : 0;
            }
            return v;
        }

        int b(int open) {
            int v = s(open);
            char c = see();
            if (c == '<' || c == '=' || c == '>') {
                at++;
                int w = s(open);
                return (c == '<' ? v < w : c == '>' ? v > w : v == w) ? 1 : 0;
            }
            return v;
        }

        int s(int open) {
            int v = p(open);
            while (see() == '+' || see() == '-') {
                char c = see();
                at++;
                int w = p(open);
                v = c == '+' ? v + w : v - w;
            }
            return v;
        }

        int p(int open) {
            int v = q(open);
            while (see() == '*' || see() == '/' || see() == '%') {
                char c = see();
                at++;
                int w = q(open);
                v = c == '*' ? v * w : w == 0 ? 0 : c == '/' ? (int) ((long) v / w) : (int) ((long) v % w);
            }
            return v;
        }

        int q(int open) {
            char c = see();
            if (c >= '0' && c <= '9') {
                int from = at;
                while (at < from + 4 && see() >= '0' && see() <= '9') {
                    at++;
                }
                return Integer.parseInt(s.substring(from, at));
            }
            if (names.indexOf(c) >= 0) {
                at++;
                return values[names.indexOf(c)];
            }
            if ((c == '!' || c == '(') && open < 5) {
                at++;
                if (c == '!') {
                    return q(open + 1) == 0 ? 1 : 0;
                }
                int v = t(open + 1);
                if (see() == ')') {
                    at++;
                    return v;
                }
            }
            throw new Fault();
        }

        /** By the definition: the longest beginning that some end makes a TEXT is as long as the FAULT's place. */
        static int fault(String tape, int use) {
            for (int n = tape.length(); n > 0; n--) {
                if (goesOn(tape.substring(0, n), use)) {
                    return n;
                }
            }
            return 0;
        }

        private static boolean goesOn(String beginning, int use) {
            StringBuilder closing = new StringBuilder();
            for (int i = 0; i <= 5; i++) {
                if (isText(beginning + closing, use) || isText(beginning + "1" + closing, use)) {
                    return true;
                }
                closing.append(')');
            }
            return false;
        }
    }

    // ---- voices as the document draws them: classes that override and call super

    static List<Integer> bodies = new ArrayList<>();

    static class AshVoice {
        int n;
        int m;

        int burns(int x) {
            bodies.add(10);
            return x + n;
        }

        int melts(int x) {
            bodies.add(11);
            return burns(x) * 2;
        }

        int runs(int x) {
            bodies.add(12);
            return x - m;
        }

        int glows(int x) {
            bodies.add(13);
            return melts(x) ^ runs(x);
        }
    }

    static class BirchVoice extends AshVoice {
        @Override
        int burns(int x) {
            bodies.add(20);
            return super.burns(x) * 3;
        }
    }

    static class OakVoice extends AshVoice {
        @Override
        int melts(int x) {
            bodies.add(30);
            return super.melts(x) - runs(1);
        }
    }

    static class StrawVoice extends AshVoice {
        @Override
        int runs(int x) {
            bodies.add(40);
            return -super.runs(x);
        }
    }

    static class YewVoice extends BirchVoice {
        @Override
        int glows(int x) {
            bodies.add(50);
            return super.glows(x) - burns(2);
        }
    }

    static class ReedVoice extends OakVoice {
        @Override
        int melts(int x) {
            bodies.add(60);
            return super.melts(x + 1);
        }
    }

    static class DungVoice extends StrawVoice {
        @Override
        int runs(int x) {
            bodies.add(70);
            return super.runs(x) ^ n;
        }

        @Override
        int glows(int x) {
            bodies.add(71);
            return melts(x) - super.glows(x);
        }
    }

    static AshVoice voiceOf(int kind) {
        switch (kind) {
            case 0: return new AshVoice();
            case 1: return new BirchVoice();
            case 2: return new OakVoice();
            case 3: return new StrawVoice();
            case 4: return new YewVoice();
            case 5: return new ReedVoice();
            default: return new DungVoice();
        }
    }

    // ---- the object

    World now = new World();
    World image = null;
    int images = 0;
    int[] told = new int[6];
    List<Integer> trace = new ArrayList<>();
    long[][] sheets = new long[4][];
    int[] bits = new int[4];

    private static void need(boolean holds, int k) {
        if (!holds) {
            throw new Refused(k);
        }
    }

    private static boolean in(int v, int a, int b) {
        return a <= v && v <= b;
    }

    private boolean ash(int a) {
        return in(a, 0, now.ashes.size() - 1);
    }

    private boolean potter(int p) {
        return in(p, 0, now.potters.size() - 1);
    }

    private boolean mix(int mix) {
        return mix >= 0 && (mix == 0 || String.valueOf(mix).length() <= now.ashes.size());
    }

    private static int digit(int mix, int i) {
        return (int) (mix / Math.pow(10, i)) % 10;
    }

    private boolean forbidden(AshOf a, int heat) {
        return a.kind == 4 && heat >= 8 || a.kind == 6 && a.m == 0;
    }

    private int colourOf(AshOf a, int heat) {
        int v = now.gives(0, a.m, a.kind, heat);
        switch (a.kind) {
            case 0: return v;
            case 1: return v + 1;
            case 2: return v * 2;
            case 3: return heat < 5 ? v : a.m;
            case 4: return v + 1 + heat;
            case 5: return v * 2 - a.m;
            default: return 9 - (heat < 5 ? v : a.m);
        }
    }

    /** The COLOUR of a MIX, or null: FORBIDDEN. */
    private Integer colourOf(int mix, int heat) {
        int sum = 0;
        for (int i = 0; i < now.ashes.size(); i++) {
            int n = digit(mix, i);
            if (n > 0) {
                if (forbidden(now.ashes.get(i), heat)) {
                    return null;
                }
                sum += n * colourOf(now.ashes.get(i), heat);
            }
        }
        return Math.floorMod(sum, 10);
    }

    /** The COLOUR that one BUSHEL of an ASH gives, FORBIDDEN or not. */
    int given(int ash, int heat) {
        return Math.floorMod(colourOf(now.ashes.get(ash), heat), 10);
    }

    private int heatsOf(int mix, int colour) {
        int set = 0;
        for (int h = 0; h < 10; h++) {
            Integer c = colourOf(mix, h);
            if (c != null && c == colour) {
                set += 1 << h;
            }
        }
        return set;
    }

    private boolean lends(World w, int from, int to, int ash, int n) {
        return w.potters.get(from)[ash] >= n && w.potters.get(to)[ash] + n <= 999;
    }

    private static void lend(World w, int from, int to, int ash, int n, int d) {
        w.potters.get(from)[ash] -= n;
        w.potters.get(to)[ash] += n;
        w.loans.add(new int[] {from, to, ash, n, w.day + d});
    }

    private void isSheet(int s) {
        need(in(s, 0, 3), 1);
        need(sheets[s] != null, 2);
    }

    /** Answers the call of that name; an ERROR is counted. */
    int call(String name, long[] a) {
        try {
            return answer(name, a);
        } catch (Refused refused) {
            told[refused.k]++;
            return -1000000000 - refused.k;
        }
    }

    private int answer(String name, long[] long0) {
        int[] a = new int[7];
        for (int i = 0; i < long0.length; i++) {
            a[i] = (int) long0[i];
        }
        switch (name) {
            case "ash":
                need(in(a[0], 0, 69), 1);
                need(now.ashes.size() < 5, 4);
                AshOf made = new AshOf();
                made.kind = a[0] / 10;
                made.m = a[0] % 10;
                now.ashes.add(made);
                return now.ashes.size() - 1;
            case "ofAsh":
                need(ash(a[0]) && in(a[1], 0, 4), 1);
                AshOf asked = now.ashes.get(a[0]);
                int all = now.potters.stream().mapToInt(p -> p[a[0]]).sum();
                return new int[] {asked.kind, asked.m, asked.hedge, asked.goes, all}[a[1]];
            case "hedge":
                need(ash(a[0]) && in(a[1], 0, 1) && in(a[2], 0, a[1] == 0 ? 9 : 3), 1);
                AshOf grown = now.ashes.get(a[0]);
                int was = a[1] == 0 ? grown.hedge : grown.goes;
                if (a[1] == 0) {
                    grown.hedge = a[2];
                } else {
                    grown.goes = a[2];
                }
                return was;
            case "become":
                need(ash(a[0]) && in(a[1], 0, 69), 1);
                AshOf other = now.ashes.get(a[0]);
                int kind = other.kind;
                other.kind = a[1] / 10;
                other.m = a[1] % 10;
                return kind;
            case "as":
                need(ash(a[0]) && in(a[1], 0, 6), 1);
                AshOf seen = now.ashes.get(a[0]);
                need(voiceOf(a[1]).getClass().isInstance(voiceOf(seen.kind)), 5);
                return seen.m;
            case "potter":
                need(now.potters.size() < 4, 4);
                now.potters.add(new int[7]);
                return now.potters.size() - 1;
            case "ofPotter":
                need(potter(a[0]) && in(a[1], 0, 3), 1);
                int has = (int) now.loans.stream().filter(l -> l[1] == a[0]).count();
                int owed = now.loans.stream().filter(l -> l[0] == a[0]).mapToInt(l -> l[3]).sum();
                int[] p = now.potters.get(a[0]);
                return new int[] {p[5], p[6], has, owed}[a[1]];
            case "store":
                need(potter(a[0]) && ash(a[1]) && in(a[2], 0, 999), 1);
                int before = now.potters.get(a[0])[a[1]];
                now.potters.get(a[0])[a[1]] = a[2];
                return before;
            case "stored":
                need(potter(a[0]) && ash(a[1]), 1);
                return now.potters.get(a[0])[a[1]];
            default:
                return answerMore(name, a, long0);
        }
    }

    private int answerMore(String name, int[] a, long[] long0) {
        switch (name) {
            case "feed":
                need(in(a[1], 1, 8), 1);
                need(now.tape.length() + a[1] <= 50, 4);
                for (int i = 0; i < a[1]; i++) {
                    now.tape += (char) (long0[0] >> (8 * i) & 255);
                }
                return now.tape.length();
            case "text":
                need(in(a[0], 0, 1), 1);
                String tape = now.tape;
                now.tape = "";
                if (!TextOf.isText(tape, a[0])) {
                    return -10 - TextOf.fault(tape, a[0]);
                }
                now.texts[a[0]] = tape;
                return 1;
            case "law":
                need(in(a[0], 0, 1), 1);
                return now.gives(a[0], a[1], a[2], a[3]);
            case "lend":
                need(potter(a[0]) && potter(a[1]) && a[0] != a[1] && ash(a[2]), 1);
                need(in(a[3], 1, 99) && in(a[4], 1, 60), 1);
                need(lends(now, a[0], a[1], a[2], a[3]), 3);
                need(now.loans.size() < 10, 4);
                lend(now, a[0], a[1], a[2], a[3], a[4]);
                return now.loans.size() - 1;
            case "ofLoan":
                need(in(a[0], 0, now.loans.size() - 1) && in(a[1], 0, 4), 1);
                return now.loans.get(a[0])[a[1]];
            case "back":
                need(in(a[0], 0, now.loans.size() - 1), 1);
                int[] loan = now.loans.get(a[0]);
                need(now.potters.get(loan[1])[loan[2]] >= loan[3], 3);
                return now.giveBack(loan);
            case "fire":
                need(potter(a[0]) && mix(a[1]) && in(a[2], 0, 9), 1);
                need(a[1] != 0, 2);
                int[] burner = now.potters.get(a[0]);
                for (int i = 0; i < 5; i++) {
                    need(burner[i] >= digit(a[1], i), 3);
                }
                Integer c = colourOf(a[1], a[2]);
                need(c != null, 5);
                for (int i = 0; i < 5; i++) {
                    burner[i] -= digit(a[1], i);
                }
                burner[5] = Math.min(9999, burner[5] + 1);
                return c;
            case "days":
                need(in(a[0], 1, 60), 1);
                need(now.day + a[0] <= 9999, 3);
                now = now.behind(a[0]);
                return now.loans.size();
            case "loose":
                need(in(a[0], 1, 40), 1);
                need(now.day + a[0] <= 9999, 3);
                for (int i = 0; i < a[0]; i++) {
                    if (!now.ashes.isEmpty()) {
                        AshOf drawn = now.ashes.get(now.draw() % now.ashes.size());
                        drawn.hedge = now.draw() % 10;
                    }
                    now.aDay();
                }
                return now.loans.size();
            default:
                return answerThought(name, a);
        }
    }

    private int answerThought(String name, int[] a) {
        switch (name) {
            case "colour":
                need(mix(a[0]) && in(a[1], 0, 9), 1);
                Integer c = colourOf(a[0], a[1]);
                need(c != null, 5);
                return c;
            case "then":
                need(in(a[0], 0, 60) && potter(a[1]) && (a[2] == -1 || ash(a[2])), 1);
                return now.behind(a[0]).potters.get(a[1])[a[2] == -1 ? 6 : a[2]];
            case "breaks":
                need(potter(a[0]), 1);
                for (int n = 0; n <= 60; n++) {
                    if (now.behind(n).potters.get(a[0])[6] > now.potters.get(a[0])[6]) {
                        return n;
                    }
                }
                throw new Refused(2);
            case "recipe":
                need(potter(a[0]) && in(a[1], 0, 9) && in(a[2], 0, 9), 1);
                return recipe(now.potters.get(a[0]), a[1], a[2]);
            case "heats":
                need(mix(a[0]) && in(a[1], 0, 9), 1);
                return heatsOf(a[0], a[1]);
            case "burnt":
                isSheet(a[0]);
                need(sheets[a[0]].length <= 10, 2);
                int set = 0;
                for (int i = 0; i < now.ashes.size(); i++) {
                    boolean can = true;
                    for (int h = 0; h < sheets[a[0]].length; h++) {
                        int given = given(i, h);
                        long told = sheets[a[0]][h];
                        can = can && (told < 0 || given == told);
                    }
                    set += can ? 1 << i : 0;
                }
                return set;
            case "round":
                int together = 0;
                TreeMap<String, Integer> sums = new TreeMap<>();
                for (int[] l : now.loans) {
                    sums.merge(l[0] + " " + l[1] + " " + l[2], l[3], Integer::sum);
                }
                for (String key : sums.keySet()) {
                    String[] k = key.split(" ");
                    if (k[0].compareTo(k[1]) < 0) {
                        int other = sums.getOrDefault(k[1] + " " + k[0] + " " + k[2], 0);
                        together += Math.min(sums.get(key), other);
                    }
                }
                return together;
            case "lender":
                need(potter(a[0]) && ash(a[1]) && in(a[2], 1, 99) && in(a[3], 1, 20), 1);
                need(now.loans.size() < 10, 4);
                TreeMap<Integer, Integer> by = new TreeMap<>();
                for (int from = now.potters.size() - 1; from >= 0; from--) {
                    if (from != a[0] && lends(now, from, a[0], a[1], a[2])) {
                        World w = now.copy();
                        lend(w, from, a[0], a[1], a[2], a[3]);
                        by.put(w.behind(60).potters.stream().mapToInt(p -> p[6]).sum(), from);
                    }
                }
                need(!by.isEmpty(), 2);
                return by.firstEntry().getValue();
            case "odds":
                need(mix(a[0]) && in(a[1], 0, 9) && in(a[2], 0, 1), 1);
                int above = Integer.bitCount(heatsOf(a[0], a[1]));
                int below = 10;
                for (int d = 10; d > 1; d--) {
                    if (above % d == 0 && below % d == 0) {
                        above /= d;
                        below /= d;
                    }
                }
                return a[2] == 0 ? above : below;
            default:
                return answerRest(name, a);
        }
    }

    private int recipe(int[] potter, int colour, int heat) {
        int best = 0;
        int fewest = 99;
        for (int mix = 1; mix <= 33333 && mix(mix); mix++) {
            int n = 0;
            boolean can = true;
            for (int i = 0; i < 5; i++) {
                can = can && digit(mix, i) <= Math.min(3, potter[i]);
                n += digit(mix, i);
            }
            if (can && n < fewest) {
                Integer c = colourOf(mix, heat);
                if (c != null && c == colour) {
                    best = mix;
                    fewest = n;
                }
            }
        }
        need(best != 0, 2);
        return best;
    }

    private int answerRest(String name, int[] a) {
        switch (name) {
            case "seed":
                int was = now.z;
                now.z = a[0];
                return was;
            case "voice":
                need(ash(a[0]) && in(a[1], 0, 3), 1);
                AshOf one = now.ashes.get(a[0]);
                AshVoice v = voiceOf(one.kind);
                v.n = a[0];
                v.m = one.m;
                bodies = new ArrayList<>();
                int answer;
                switch (a[1]) {
                    case 0: answer = v.burns(a[2]); break;
                    case 1: answer = v.melts(a[2]); break;
                    case 2: answer = v.runs(a[2]); break;
                    default: answer = v.glows(a[2]); break;
                }
                trace = bodies.size() > 40 ? bodies.subList(0, 40) : bodies;
                return answer;
            case "trace":
                need(in(a[0], 0, trace.size() - 1), 2);
                return trace.get(a[0]);
            case "sheet":
                need(in(a[0], 0, 3) && List.of(0, 8, 16, 32).contains(a[1]), 1);
                if (a[1] == 0) {
                    sheets[a[0]] = null;
                } else {
                    need(a[2] >= 0, 3);
                    need(a[2] <= 40, 1);
                    sheets[a[0]] = new long[a[2]];
                }
                bits[a[0]] = a[1];
                return 1;
            case "put":
                isSheet(a[0]);
                need(in(a[1], 0, sheets[a[0]].length - 1), 1);
                long low = a[2] & (1L << bits[a[0]]) - 1;
                sheets[a[0]][a[1]] = low >= 1L << bits[a[0]] - 1 ? low - (1L << bits[a[0]]) : low;
                return 1;
            case "move":
                need(in(a[0], 0, 3) && in(a[2], 0, 3), 1);
                need(sheets[a[0]] != null && sheets[a[2]] != null, 2);
                need(bits[a[0]] == bits[a[2]], 5);
                long i = a[1];
                long j = a[3];
                long n = a[4];
                need(n >= 0 && i >= 0 && j >= 0, 1);
                need(i + n <= sheets[a[0]].length && j + n <= sheets[a[2]].length, 1);
                long[] moved = Arrays.copyOfRange(sheets[a[0]], (int) i, (int) (i + n));
                for (int q = 0; q < n; q++) {
                    sheets[a[2]][(int) j + q] = moved[q];
                }
                return (int) n;
            case "hedges":
                isSheet(a[0]);
                int done = 0;
                for (long number : sheets[a[0]]) {
                    if (number < 0 || number > 9 || done >= now.ashes.size()) {
                        break;
                    }
                    now.ashes.get(done).hedge = (int) number;
                    done++;
                }
                return done;
            case "judge":
                isSheet(a[0]);
                for (int q = 0; q < 41; q++) {
                    boolean told = q < sheets[a[0]].length;
                    boolean there = q < now.loans.size();
                    if (told != there || told && sheets[a[0]][q] != now.loans.get(q)[3]) {
                        return q;
                    }
                }
                return -1;
            case "image":
                image = now.copy();
                return ++images;
            case "restore":
                need(image != null, 2);
                now = image.copy();
                return now.day;
            case "tell":
                need(now.waiting.size() < 20, 4);
                now.waiting.add(a[0]);
                return now.waiting.size();
            case "check":
                List<Integer> numbers = now.waiting;
                now.waiting = new ArrayList<>();
                for (int q = 0; q < numbers.size(); q++) {
                    if (now.behind(q + 1).loans.size() != numbers.get(q)) {
                        return 1 + q;
                    }
                }
                return 0;
            case "count":
                need(in(a[0], 0, 9), 1);
                int pots = now.potters.stream().mapToInt(p -> p[5]).sum();
                int broken = now.potters.stream().mapToInt(p -> p[6]).sum();
                return new int[] {now.ashes.size(), now.potters.size(), now.loans.size(), now.day, pots, broken,
                    now.tape.length(), now.waiting.size(), trace.size(), now.z}[a[0]];
            case "told":
                need(in(a[0], 1, 5), 1);
                return told[a[0]];
            default:
                throw new IllegalStateException(name);
        }
    }
}
