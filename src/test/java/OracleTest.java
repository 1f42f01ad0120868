import java.math.BigInteger;
import java.util.ArrayList;
import java.util.List;

/**
 * Runs of calls by lots on fresh objects, each answer held against a second reading of the document that
 * goes through all there is in the plainest way and shares no line with the program. A run is 512 calls,
 * wild arguments among them, so it also tells if the program ever throws.
 */
public final class OracleTest {
    private static final int BAD = -1, FULL = -2, FINDING = -3, STATE = -4, SPENT = -6, NONE = -9;
    private static final int RUNS = 1500, CALLS = 512;
    private static final String LETTERS = "trcgly";

    /** What a thief is, apart from the place he has. */
    private static final class Man {
        int kind, skill, boldness, crosses;
        boolean left = true;

        Man copy() {
            Man m = new Man();
            m.kind = kind;
            m.skill = skill;
            m.boldness = boldness;
            m.crosses = crosses;
            m.left = left;
            return m;
        }
    }

    private record Deed(char what, int n) {
    }

    /** The state of a book, counted anew from the deeds each time. */
    private static final class State {
        int bounty, fee, fear, bench, weeks, money, stock;
        boolean tried;
        final List<Man> men = new ArrayList<>();

        State copy() {
            State s = new State();
            s.bounty = bounty;
            s.fee = fee;
            s.fear = fear;
            s.bench = bench;
            s.weeks = weeks;
            s.money = money;
            s.stock = stock;
            s.tried = tried;
            for (Man m : men) {
                s.men.add(m.copy());
            }
            return s;
        }

        int others(Man of) {
            int n = 0;
            for (Man m : men) {
                if (m != of && m.left && (m.kind == 3 || m.kind == 5)) {
                    n++;
                }
            }
            return n;
        }

        int steals(Man m) {
            int gang = m.skill + others(m);
            return new int[] {m.skill, m.skill + 1, m.skill / 2, gang, m.skill + 1, gang / 2}[m.kind];
        }

        boolean speaks(Man m) {
            return speaks(m.kind, m.boldness, fear, m.crosses, others(m));
        }

        static boolean speaks(int kind, int boldness, int fear, int crosses, int others) {
            boolean dares = boldness > fear + crosses + crosses;
            boolean daresYoung = boldness + 2 > fear + crosses + crosses;
            boolean few = others < 2;
            return new boolean[] {dares, false, dares && crosses == 0, dares && few, crosses == 2, daresYoung && few}[kind];
        }

        int head(Man m) {
            int full = bounty + m.crosses;
            return m.kind == 2 ? full / 2 : m.kind == 5 ? (full == 0 ? 0 : full - 1) : full;
        }

        int speakers() {
            int n = 0;
            for (Man m : men) {
                if (m.left && speaks(m)) {
                    n++;
                }
            }
            return n;
        }

        boolean trial() {
            return speakers() >= bench;
        }

        int coming() {
            int n = 0;
            for (Man m : men) {
                n += m.left ? steals(m) : 0;
            }
            return n;
        }

        void act(Deed d) {
            if (d.what == 'w') {
                weeks++;
                if (trial()) {
                    tried = true;
                } else {
                    stock += coming();
                }
            } else if (d.what == 'b') {
                stock -= d.n;
                money += d.n * fee;
            } else if (d.what == 'c') {
                men.get(d.n).crosses++;
            } else {
                money += head(men.get(d.n));
                men.get(d.n).left = false;
            }
        }
    }

    /** The second reading. */
    private static final class Oracle {
        final int[][] rows = new int[6][];
        final byte[][] texts = new byte[4][];
        State first, now;
        List<Deed> deeds = new ArrayList<>();
        final List<List<Deed>> kept = new ArrayList<>(List.of(List.of(), List.of(), List.of()));
        final boolean[] isKept = new boolean[3];
        int asked, latest;
        long upper, lower = 1;
        final int[] often = new int[6];

        int find(int f) {
            latest = f;
            often[f]++;
            return FINDING;
        }

        int tell(int what) {
            asked = what;
            return 1;
        }

        void recount() {
            now = first.copy();
            for (Deed d : deeds) {
                now.act(d);
            }
        }

        boolean thiefIs(int i) {
            return now != null && i >= 0 && i < now.men.size();
        }

        int row(int r, int n) {
            if (r < 0 || r > 5 || n > 40) return BAD;
            if (n < 0) return find(5);
            rows[r] = new int[n];
            return n;
        }

        int lay(int r, int i, int v) {
            if (r < 0 || r > 5) return BAD;
            if (rows[r] == null) return find(1);
            if (i < 0 || i >= rows[r].length) return find(2);
            tell(rows[r][i]);
            rows[r][i] = v;
            return 1;
        }

        int at(int r, int i) {
            if (r < 0 || r > 5) return BAD;
            if (rows[r] == null) return find(1);
            if (i < 0 || i >= rows[r].length) return find(2);
            return tell(rows[r][i]);
        }

        int tear(int r) {
            if (r < 0 || r > 5) return BAD;
            if (rows[r] == null) return find(1);
            rows[r] = null;
            return 1;
        }

        int copy(int r, int i, int to, int j, int n) {
            if (r < 0 || r > 5 || to < 0 || to > 5) return BAD;
            if (n < 0) return find(5);
            if (rows[r] == null || rows[to] == null) return find(1);
            if (i < 0 || j < 0 || (long) i + n > rows[r].length || (long) j + n > rows[to].length) return find(2);
            int[] taken = rows[r].clone();
            for (int k = 0; k < n; k++) {
                rows[to][j + k] = taken[i + k];
            }
            return 1;
        }

        int mean(int r) {
            if (r < 0 || r > 5) return BAD;
            if (rows[r] == null) return find(1);
            if (rows[r].length == 0) return find(4);
            BigInteger all = BigInteger.ZERO;
            for (int v : rows[r]) {
                all = all.add(BigInteger.valueOf(v));
            }
            return tell(all.divide(BigInteger.valueOf(rows[r].length)).intValueExact());
        }

        int text(int t, int n) {
            if (t < 0 || t > 3 || n > 60) return BAD;
            if (n < 0) return find(5);
            texts[t] = " ".repeat(n).getBytes();
            return n;
        }

        int put(int t, int i, int v) {
            if (t < 0 || t > 3) return BAD;
            if (texts[t] == null) return find(1);
            if (i < 0 || i >= texts[t].length) return find(2);
            int was = texts[t][i];
            int low = v & 255;
            texts[t][i] = (byte) (low > 127 ? low - 256 : low);
            return was + 1000;
        }

        /** A text is a book's beginning, if some end makes a book of it; the fault ends the longest beginning. */
        int faultOf(byte[] text) {
            StringBuilder s = new StringBuilder();
            for (byte b : text) {
                s.append((char) (b & 255));
            }
            String digit = "[0-9]";
            String item = "k" + digit.repeat(3) + "[1-6]";
            String thief = "[trcgly][0-9][0-9][0-2] *";
            if (s.toString().matches(" *" + item + " *(" + thief + "){1,6}")) {
                return NONE;
            }
            String part = "([trcgly]([0-9]([0-9]([0-2])?)?)?)?";
            String head = " *(k([0-9]([0-9]([0-9]([1-6])?)?)?)?)?";
            String more = " *" + item + " *(((" + thief + "){0,5}" + part + ")|((" + thief + "){6}))";
            for (int n = s.length(); n > 0; n--) {
                String ahead = s.substring(0, n);
                if (ahead.matches(head) || ahead.matches(more)) {
                    return n;
                }
            }
            return 0;
        }

        int fault(int t) {
            if (t < 0 || t > 3) return BAD;
            if (texts[t] == null) return find(1);
            return faultOf(texts[t]);
        }

        int book(int t) {
            if (t < 0 || t > 3) return BAD;
            if (texts[t] == null) return find(1);
            if (faultOf(texts[t]) != NONE) return STATE;
            String s = new String(texts[t]).replace(" ", "");
            first = new State();
            first.bounty = s.charAt(1) - '0';
            first.fee = s.charAt(2) - '0';
            first.fear = s.charAt(3) - '0';
            first.bench = s.charAt(4) - '0';
            for (int at = 5; at < s.length(); at += 4) {
                Man m = new Man();
                m.kind = LETTERS.indexOf(s.charAt(at));
                m.skill = s.charAt(at + 1) - '0';
                m.boldness = s.charAt(at + 2) - '0';
                m.crosses = s.charAt(at + 3) - '0';
                first.men.add(m);
            }
            deeds = new ArrayList<>();
            for (int k = 0; k < 3; k++) {
                isKept[k] = false;
            }
            recount();
            return now.men.size();
        }

        int told(int i, int what) {
            Man m = now.men.get(i);
            return new int[] {m.kind, m.skill, m.boldness, m.crosses, now.steals(m), now.speaks(m) ? 1 : 0,
                m.left ? 1 : 0, now.head(m)}[what];
        }

        int thief(int i, int what) {
            return !thiefIs(i) || what < 0 || what > 7 ? BAD : tell(told(i, what));
        }

        int mark(int i, int kind) {
            if (!thiefIs(i) || kind < 1 || kind > 5) return BAD;
            Man m = now.men.get(i);
            boolean is = m.kind == kind || m.kind == 4 && kind == 1 || m.kind == 5 && kind == 3;
            if (!is) return find(3);
            if (kind == 1) return now.speakers() - (m.left && now.speaks(m) ? 1 : 0);
            if (kind == 2) return now.weeks + 1;
            if (kind == 3) return now.others(m);
            if (kind == 4) return 2 - m.crosses;
            int more = 0;
            while (m.boldness + more + 2 <= now.fear) {
                more++;
            }
            return more;
        }

        boolean open() {
            return now != null && !now.tried;
        }

        void act(char what, int n) {
            Deed d = new Deed(what, n);
            deeds.add(d);
            now.act(d);
        }

        int week() {
            if (!open()) return STATE;
            if (deeds.size() == 40) return FULL;
            act('w', 0);
            tell(now.tried ? 1 : 0);
            return now.stock;
        }

        int back(int n) {
            if (n < 1 || n > 99) return BAD;
            if (!open()) return STATE;
            if (n > now.stock) return SPENT;
            if (deeds.size() == 40) return FULL;
            act('b', n);
            return now.money;
        }

        int cross(int i) {
            if (!thiefIs(i)) return BAD;
            if (!open() || !now.men.get(i).left || now.men.get(i).crosses == 2) return STATE;
            if (deeds.size() == 40) return FULL;
            act('c', i);
            return now.men.get(i).crosses;
        }

        int give(int i) {
            if (!thiefIs(i)) return BAD;
            if (!open() || !now.men.get(i).left) return STATE;
            if (deeds.size() == 40) return FULL;
            act('g', i);
            return now.money;
        }

        int undo(int n) {
            if (n < 0 || n > deeds.size()) return BAD;
            int gone = deeds.size() - n;
            deeds = new ArrayList<>(deeds.subList(0, n));
            if (now != null) recount();
            return gone;
        }

        int keep(int k) {
            if (k < 0 || k > 2) return BAD;
            if (now == null) return STATE;
            kept.set(k, new ArrayList<>(deeds));
            isKept[k] = true;
            return deeds.size();
        }

        int on(int k) {
            if (k < 0 || k > 2) return BAD;
            if (!isKept[k]) return find(1);
            deeds = new ArrayList<>(kept.get(k));
            recount();
            return deeds.size();
        }

        int speak() {
            if (now == null) return STATE;
            int bits = 0;
            for (int i = 0; i < now.men.size(); i++) {
                if (now.men.get(i).left && now.speaks(now.men.get(i))) bits += 1 << i;
            }
            tell(now.trial() ? 1 : 0);
            return bits;
        }

        /** All sets of those left, by their numbers. */
        List<Integer> sets() {
            List<Integer> sets = new ArrayList<>();
            for (int set = 0; set < 1 << now.men.size(); set++) {
                boolean well = true;
                for (int i = 0; i < now.men.size(); i++) {
                    well &= (set >> i) % 2 == 0 || now.men.get(i).left;
                }
                if (well) sets.add(set);
            }
            return sets;
        }

        int safe() {
            if (now == null) return STATE;
            int fewest = 99;
            for (int set : sets()) {
                State s = now.copy();
                for (int i = 0; i < s.men.size(); i++) {
                    if ((set >> i) % 2 == 1) s.men.get(i).left = false;
                }
                if (!s.trial() && Integer.bitCount(set) < fewest) {
                    fewest = Integer.bitCount(set);
                    tell(set);
                }
            }
            return fewest;
        }

        int silent() {
            if (now == null) return STATE;
            int best = MOST_INT;
            int code = (int) Math.pow(3, now.men.size());
            for (int c = 0; c < code; c++) {
                State s = now.copy();
                int rest = c;
                int added = 0;
                int twos = 0;
                boolean well = true;
                for (Man m : s.men) {
                    int more = rest % 3;
                    rest /= 3;
                    well &= more == 0 || m.left && m.crosses + more <= 2;
                    m.crosses += more;
                    added += more;
                    twos += m.left && m.crosses == 2 ? 1 : 0;
                }
                if (well && !s.trial()) best = Math.min(best, added * 10 + 9 - twos);
            }
            if (best == MOST_INT) return NONE;
            tell(9 - best % 10);
            return best / 10;
        }

        int headsOf(int set) {
            int all = 0;
            for (int i = 0; i < now.men.size(); i++) {
                all += (set >> i) % 2 * now.head(now.men.get(i));
            }
            return all;
        }

        int lootOf(int set) {
            int all = 0;
            for (int i = 0; i < now.men.size(); i++) {
                all += (set >> i) % 2 * now.steals(now.men.get(i));
            }
            return all;
        }

        int heads(int n) {
            if (n < 0 || n > 6) return BAD;
            if (now == null) return STATE;
            int most = NONE;
            for (int set : sets()) {
                if (Integer.bitCount(set) == n && headsOf(set) > most) {
                    most = headsOf(set);
                    tell(set);
                }
            }
            return most;
        }

        /** All plans in their order, those with names behind a trial among them. */
        List<int[]> plans(int n) {
            List<int[]> plans = new ArrayList<>();
            int codes = (int) Math.pow(7, n);
            for (int c = 0; c < codes; c++) {
                int[] plan = new int[n];
                int rest = c;
                for (int w = n - 1; w >= 0; w--) {
                    plan[w] = rest % 7 == 0 ? NONE : rest % 7 - 1;
                    rest /= 7;
                }
                if (isPlan(plan)) plans.add(plan);
            }
            return plans;
        }

        boolean isPlan(int[] plan) {
            List<Integer> told = new ArrayList<>();
            for (int who : plan) {
                if (who != NONE) {
                    if (!thiefIs(who) || !now.men.get(who).left || told.contains(who)) return false;
                    told.add(who);
                }
            }
            return true;
        }

        /** The money, and by 1000 the week of the trial (1 the first). */
        int follow(int[] plan) {
            State s = now.copy();
            for (int w = 0; w < plan.length; w++) {
                if (plan[w] != NONE) s.act(new Deed('g', plan[w]));
                s.act(new Deed('w', 0));
                if (s.tried) return 10000 * (w + 1) + s.money - now.money;
                s.act(new Deed('b', s.stock));
            }
            return s.money - now.money;
        }

        int best(int n, int r) {
            if (n < 0 || n > 4 || r < 0 || r > 5) return BAD;
            if (!open()) return STATE;
            int most = -1;
            for (int[] plan : plans(n)) {
                int money = follow(plan) % 10000;
                if (money > most) {
                    most = money;
                    rows[r] = plan;
                }
            }
            return most;
        }

        int ways(int n) {
            if (n < 0 || n > 4) return BAD;
            if (!open()) return STATE;
            int all = 0;
            int common = 63;
            for (int[] plan : plans(n)) {
                if (follow(plan) < 10000) {
                    all++;
                    int given = 0;
                    for (int who : plan) {
                        given += who == NONE ? 0 : 1 << who;
                    }
                    common &= given;
                }
            }
            upper = all;
            lower = 1;
            return tell(all == 0 ? 0 : common);
        }

        int brings(int r) {
            if (r < 0 || r > 5) return BAD;
            if (!open()) return STATE;
            if (rows[r] == null) return find(1);
            if (rows[r].length > 4) return find(5);
            if (!isPlan(rows[r])) return find(3);
            int money = follow(rows[r]);
            tell(money < 10000 ? NONE : money / 10000 - 1);
            return money % 10000;
        }

        List<Integer> such(int v) {
            List<Integer> such = new ArrayList<>();
            for (int set : sets()) {
                if (lootOf(set) == v) such.add(set);
            }
            return such;
        }

        int fits(int v) {
            if (v < 0 || v > 99) return BAD;
            if (now == null) return STATE;
            upper = such(v).size();
            lower = 1;
            return tell(upper == 0 ? NONE : such(v).get(0));
        }

        int sure(int v) {
            if (v < 0 || v > 99) return BAD;
            if (now == null) return STATE;
            if (such(v).isEmpty()) return find(4);
            int in = 0;
            int none = 0;
            for (int i = 0; i < now.men.size(); i++) {
                int with = 0;
                for (int set : such(v)) {
                    with += (set >> i) % 2;
                }
                in += with == such(v).size() ? 1 << i : 0;
                none += with == 0 && now.men.get(i).left ? 1 << i : 0;
            }
            tell(none);
            return in;
        }

        int ask(int v) {
            if (v < 0 || v > 99) return BAD;
            if (now == null) return STATE;
            if (such(v).isEmpty()) return find(4);
            int least = 99;
            int whom = NONE;
            for (int i = now.men.size() - 1; i >= 0; i--) {
                int with = 0;
                for (int set : such(v)) {
                    with += (set >> i) % 2;
                }
                int part = Math.max(with, such(v).size() - with);
                if (now.men.get(i).left && part <= least) {
                    least = part;
                    whom = i;
                }
            }
            if (whom != NONE) tell(least);
            return whom;
        }

        int refusedTriples(int i, int r) {
            if (!thiefIs(i) || r < 0 || r > 5) return BAD;
            if (rows[r] == null) return find(1);
            if (rows[r].length % 3 != 0) return find(5);
            int[] most = {9, 2, 1};
            for (int p = 0; p < rows[r].length; p++) {
                if (rows[r][p] < 0 || rows[r][p] > most[p % 3]) return find(3);
            }
            return 0;
        }

        boolean agrees(int i, int r, int kind, int boldness) {
            int others = now.others(now.men.get(i));
            for (int p = 0; p < rows[r].length; p += 3) {
                boolean spoke = State.speaks(kind, boldness, rows[r][p], rows[r][p + 1], others);
                if (spoke != (rows[r][p + 2] == 1)) return false;
            }
            return true;
        }

        int bold(int i, int r) {
            int refused = refusedTriples(i, r);
            if (refused != 0) return refused;
            int bits = 0;
            for (int b = 0; b < 10; b++) {
                if (agrees(i, r, now.men.get(i).kind, b)) bits += 1 << b;
            }
            return bits;
        }

        int kindsOf(int i, int r) {
            int bits = 0;
            for (int k = 0; k < 6; k++) {
                if (agrees(i, r, k, now.men.get(i).boldness)) bits += 1 << k;
            }
            return bits;
        }

        int kinds(int i, int r) {
            int refused = refusedTriples(i, r);
            return refused != 0 ? refused : kindsOf(i, r);
        }

        int test(int i, int r) {
            int refused = refusedTriples(i, r);
            if (refused != 0) return refused;
            int may = kindsOf(i, r);
            int least = 99;
            int by = NONE;
            for (int number = 99; number >= 0 && may != 0; number--) {
                if (number % 10 > 2) continue;
                int[] parts = new int[2];
                for (int k = 0; k < 6; k++) {
                    boolean speaks = State.speaks(k, now.men.get(i).boldness, number / 10, number % 10,
                            now.others(now.men.get(i)));
                    if ((may >> k) % 2 == 1) parts[speaks ? 1 : 0]++;
                }
                if (Math.max(parts[0], parts[1]) <= least) {
                    least = Math.max(parts[0], parts[1]);
                    by = number;
                }
            }
            if (by != NONE) tell(least);
            return by;
        }

        int play(State s, int turns, boolean his) {
            if (turns == 0) return s.speakers();
            List<Integer> ends = new ArrayList<>();
            ends.add(play(s, turns - 1, !his));
            for (int i = 0; i < s.men.size(); i++) {
                State then = s.copy();
                Man m = then.men.get(i);
                m.crosses += his ? 1 : -1;
                if (m.left && m.crosses >= 0 && m.crosses <= 2) ends.add(play(then, turns - 1, !his));
            }
            int end = ends.get(0);
            for (int e : ends) {
                end = his ? Math.min(end, e) : Math.max(end, e);
            }
            return end;
        }

        int duel(int n) {
            if (n < 0 || n > 4) return BAD;
            if (now == null) return STATE;
            return play(now, n, true);
        }

        int sum(int v) {
            if (v < 0 || v > 99) return BAD;
            if (now == null) return STATE;
            int best = MOST_INT;
            for (int set : sets()) {
                for (int goods = 0; goods < 100; goods++) {
                    int paid = Integer.bitCount(set);
                    if (headsOf(set) + goods * now.fee == v) best = Math.min(best, (goods + paid) * 10 + 9 - paid);
                }
            }
            if (best == MOST_INT) return NONE;
            tell(9 - best % 10);
            return best / 10;
        }

        void tellNumbers(BigInteger a, BigInteger b) {
            BigInteger g = a.gcd(b);
            upper = a.divide(g).longValueExact();
            lower = b.divide(g).longValueExact();
        }

        /** Each who speaks has twelve lots; p of them keep him silent. */
        BigInteger[] chances(int p) {
            int n = now.speakers();
            BigInteger well = BigInteger.ZERO;
            for (int set = 0; set < 1 << n; set++) {
                BigInteger lots = BigInteger.ONE;
                for (int i = 0; i < n; i++) {
                    lots = lots.multiply(BigInteger.valueOf((set >> i) % 2 == 1 ? 12 - p : p));
                }
                if (Integer.bitCount(set) < now.bench) well = well.add(lots);
            }
            return new BigInteger[] {well, BigInteger.valueOf(12).pow(n)};
        }

        int odds(int p) {
            if (p < 0 || p > 12) return BAD;
            if (now == null) return STATE;
            tellNumbers(chances(p)[0], chances(p)[1]);
            return 1;
        }

        int mid(int p) {
            if (p < 0 || p > 12) return BAD;
            if (now == null) return STATE;
            tellNumbers(chances(p)[0].multiply(BigInteger.valueOf(now.coming())), chances(p)[1]);
            return 1;
        }

        int lots(int n, int seed) {
            if (n < 1 || n > 20 || seed < 1 || seed > 2147483646) return BAD;
            if (!open()) return STATE;
            if (deeds.size() + n > 40) return FULL;
            BigInteger number = BigInteger.valueOf(seed);
            int done = 0;
            while (done < n && !now.tried) {
                number = number.multiply(BigInteger.valueOf(48271)).mod(BigInteger.valueOf(2147483647));
                int x = number.intValueExact();
                int who = x / 8 % now.men.size();
                Man m = now.men.get(who);
                if (x % 4 == 2 && m.left) {
                    act('g', who);
                } else if (x % 4 == 3 && m.left && m.crosses < 2) {
                    act('c', who);
                } else {
                    act('w', 0);
                }
                done++;
            }
            return done;
        }

        int count(int what) {
            if (what < 0 || what > 10) return BAD;
            int rowsThere = 0;
            int textsThere = 0;
            int booksThere = 0;
            for (int[] row : rows) {
                rowsThere += row == null ? 0 : 1;
            }
            for (byte[] text : texts) {
                textsThere += text == null ? 0 : 1;
            }
            for (boolean is : isKept) {
                booksThere += is ? 1 : 0;
            }
            int left = 0;
            int gang = 0;
            for (int i = 0; now != null && i < now.men.size(); i++) {
                left += now.men.get(i).left ? 1 << i : 0;
                gang += now.men.get(i).kind == 3 || now.men.get(i).kind == 5 ? 1 : 0;
            }
            State s = now == null ? new State() : now;
            return new int[] {s.men.size(), s.weeks, deeds.size(), s.money, s.stock, left, s.tried ? 1 : 0, gang,
                rowsThere, textsThere, booksThere}[what];
        }

        int findings(int f) {
            return f < 1 || f > 5 ? BAD : often[f];
        }

        long digest() {
            List<Integer> all = new ArrayList<>();
            for (int what = 0; what <= 10; what++) {
                all.add(count(what));
            }
            for (int i = 0; thiefIs(i); i++) {
                for (int what = 0; what <= 7; what++) {
                    all.add(told(i, what));
                }
            }
            for (int k = 0; k < 3; k++) {
                all.add(isKept[k] ? kept.get(k).size() : -1);
            }
            for (int[] row : rows) {
                all.add(row == null ? -1 : row.length);
                for (int i = 0; row != null && i < row.length; i++) {
                    all.add(row[i]);
                }
            }
            for (byte[] text : texts) {
                all.add(text == null ? -1 : text.length);
                for (int i = 0; text != null && i < text.length; i++) {
                    all.add((int) text[i]);
                }
            }
            long h = 17;
            for (int v : all) {
                h = 31 * h + v;
            }
            return h;
        }
    }

    private static final int MOST_INT = Integer.MAX_VALUE;
    private static long lot = 1;
    private static int wrong;

    private static int draw(int n) {
        lot = lot * 48271 % 2147483647;
        return (int) (lot / 16 % n);
    }

    private static int wild() {
        int[] some = {Integer.MIN_VALUE, Integer.MAX_VALUE, -100, -10, -9, -2, -1, 5, 6, 7, 9, 10, 12, 13, 20, 21,
            40, 41, 60, 61, 99, 100, 128, 256};
        return some[draw(some.length)];
    }

    /** A number below n, now and then another one. */
    private static int number(int n) {
        return draw(25) == 0 ? wild() : draw(n);
    }

    private static int spoken(Oracle o, int i) {
        return draw(4) == 0 ? draw(10) : o.thiefIs(i) ? o.now.men.get(i).boldness : 0;
    }

    private static String someBook() {
        StringBuilder s = new StringBuilder();
        s.append(" ".repeat(draw(3)));
        s.append('k').append(draw(10)).append(draw(10)).append(draw(10)).append(1 + draw(draw(2) == 0 ? 3 : 6));
        int n = 1 + draw(6);
        for (int i = 0; i < n; i++) {
            s.append(" ".repeat(draw(2)));
            s.append(LETTERS.charAt(draw(draw(3) == 0 ? 4 : 6)));
            s.append(draw(10)).append(draw(4) == 0 ? 9 : draw(10)).append(draw(2) * draw(3));
        }
        return s.append(" ".repeat(draw(3))).toString();
    }

    private static void same(int run, int call, String name, long got, long want) {
        if (got != want) {
            wrong++;
            if (wrong < 50) {
                System.out.println("run " + run + " call " + call + ": " + name + " answered " + got + ", due is " + want);
            }
        }
    }

    /** Writes a text into both; spoilt tells how many of its signs are not as they should be. */
    private static int write(TakerBook x, Oracle o, int t, String text, int spoilt) {
        x.text(t, text.length());
        o.text(t, text.length());
        for (int i = 0; i < text.length(); i++) {
            x.put(t, i, text.charAt(i));
            o.put(t, i, text.charAt(i));
        }
        for (int k = 0; k < spoilt; k++) {
            int i = draw(text.length());
            int v = "0123456789 ktrcgly%".charAt(draw(19)) + (draw(10) == 0 ? 128 : 0);
            x.put(t, i, v);
            o.put(t, i, v);
        }
        return 1 + text.length() + spoilt;
    }

    /** Fills a row with a plan or triples in both. */
    private static int fill(TakerBook x, Oracle o, int r) {
        boolean plan = draw(2) == 0;
        int n = plan ? draw(5) : 3 * draw(5) + draw(12) / 11;
        int i = draw(6);
        x.row(r, n);
        o.row(r, n);
        for (int p = 0; p < n; p++) {
            int v = plan ? (draw(3) == 0 ? NONE : draw(6))
                    : p % 3 == 0 ? draw(10) : p % 3 == 1 ? draw(3) : spoken(o, i) > draw(10) ? 1 : 0;
            v = draw(40) == 0 ? wild() : v;
            x.lay(r, p, v);
            o.lay(r, p, v);
        }
        return 1 + n;
    }

    private static int first(TakerBook x, Oracle o, int run, int call, int which) {
        int a = number(6), b = number(8), c = number(6), d = number(4), e = number(5);
        switch (which) {
            case 0: same(run, call, "row", x.row(a, b), o.row(a, b)); break;
            case 1: same(run, call, "lay", x.lay(a, b, c), o.lay(a, b, c)); break;
            case 2: same(run, call, "at", x.at(a, b), o.at(a, b)); break;
            case 3: same(run, call, "tear", x.tear(a), o.tear(a)); break;
            case 4: same(run, call, "copy", x.copy(a, d, c, e, b), o.copy(a, d, c, e, b)); break;
            case 5: same(run, call, "mean", x.mean(a), o.mean(a)); break;
            case 6: return 1 + draw(2) * write(x, o, draw(4), someBook(), draw(2) * draw(3));
            case 7: same(run, call, "text", x.text(d, 7 * b), o.text(d, 7 * b)); break;
            default: same(run, call, "fault", x.fault(d), o.fault(d)); break;
        }
        return 1;
    }

    private static int second(TakerBook x, Oracle o, int run, int call, int which) {
        int a = number(6), b = number(8), c = number(3), n = number(draw(2) == 0 ? 8 : 40);
        switch (which) {
            case 9: same(run, call, "thief", x.thief(a, b), o.thief(a, b)); break;
            case 10: same(run, call, "mark", x.mark(a, b), o.mark(a, b)); break;
            case 11: case 12: same(run, call, "week", x.week(), o.week()); break;
            case 13: same(run, call, "back", x.back(n), o.back(n)); break;
            case 14: same(run, call, "cross", x.cross(a), o.cross(a)); break;
            case 15: same(run, call, "give", x.give(a), o.give(a)); break;
            case 16: same(run, call, "undo", x.undo(n), o.undo(n)); break;
            case 17: same(run, call, "keep", x.keep(c), o.keep(c)); break;
            case 18: same(run, call, "on", x.on(c), o.on(c)); break;
            case 19: same(run, call, "lots", x.lots(a, n + 1), o.lots(a, n + 1)); break;
            default: return fill(x, o, draw(6));
        }
        return 1;
    }

    private static int third(TakerBook x, Oracle o, int run, int call, int which) {
        int a = number(6), b = number(7), n = number(draw(8) == 0 ? 5 : 3), v = number(draw(4) == 0 ? 100 : 25);
        int p = number(13);
        switch (which) {
            case 21: same(run, call, "speak", x.speak(), o.speak()); break;
            case 22: same(run, call, "safe", x.safe(), o.safe()); break;
            case 23: same(run, call, "silent", x.silent(), o.silent()); break;
            case 24: same(run, call, "heads", x.heads(b), o.heads(b)); break;
            case 25: same(run, call, "best", x.best(n, a), o.best(n, a)); break;
            case 26: same(run, call, "ways", x.ways(n), o.ways(n)); break;
            case 27: same(run, call, "brings", x.brings(a), o.brings(a)); break;
            case 28: same(run, call, "fits", x.fits(v), o.fits(v)); break;
            case 29: same(run, call, "sure", x.sure(v), o.sure(v)); break;
            case 30: same(run, call, "ask", x.ask(v), o.ask(v)); break;
            case 31: same(run, call, "bold", x.bold(b, a), o.bold(b, a)); break;
            case 32: same(run, call, "kinds", x.kinds(b, a), o.kinds(b, a)); break;
            case 33: same(run, call, "test", x.test(b, a), o.test(b, a)); break;
            case 34: same(run, call, "duel", x.duel(n), o.duel(n)); break;
            case 35: same(run, call, "sum", x.sum(v), o.sum(v)); break;
            case 36: same(run, call, "odds", x.odds(p), o.odds(p)); break;
            case 37: same(run, call, "mid", x.mid(p), o.mid(p)); break;
            case 38: same(run, call, "count", x.count(p), o.count(p)); break;
            case 39: same(run, call, "findings", x.findings(b), o.findings(b)); break;
            default: same(run, call, "book", x.book(n), o.book(n)); break;
        }
        return 1;
    }

    private static void run(int run) {
        TakerBook x = new TakerBook();
        Oracle o = new Oracle();
        int calls = 0;
        if (draw(10) != 0) {
            calls += write(x, o, 0, someBook(), 0) + 1;
            same(run, calls, "book", x.book(0), o.book(0));
        }
        while (calls < CALLS - 70) {
            int which = draw(40);
            // a new book ends what was begun, so it comes seldom
            which = which == 8 && draw(4) == 0 ? 40 : which;
            calls += which < 9 ? first(x, o, run, calls, which)
                    : which < 21 ? second(x, o, run, calls, which) : third(x, o, run, calls, which);
            same(run, calls, "asked after " + which, x.asked(), o.asked);
            same(run, calls, "upper after " + which, x.upper(), o.upper);
            same(run, calls, "lower after " + which, x.lower(), o.lower);
            same(run, calls, "finding after " + which, x.finding(), o.latest);
            same(run, calls, "digest after " + which, x.digest(), o.digest());
        }
    }

    public static void main(String[] args) {
        for (int run = 1; run <= RUNS; run++) {
            lot = 1000 + run;
            run(run);
        }
        System.out.println(wrong == 0 ? RUNS + " runs by lots: all answers are as due" : wrong + " answers are not as due");
        if (wrong != 0) {
            System.exit(1);
        }
    }
}
