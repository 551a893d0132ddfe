import java.math.BigInteger;
import java.util.ArrayDeque;
import java.util.ArrayList;
import java.util.Comparator;
import java.util.Deque;
import java.util.List;
import java.util.Map;
import java.util.TreeMap;

/** The document's terms II to IV once more, as plainly as they can be said, to hold the class against. */
final class Model {
    static final int NONE = -1;
    static final long NOTHING = -1000000000000000L;

    /** A SUM or a TEST as a tree: what is at its top, a number, its parts. */
    record Tree(String top, int number, Tree left, Tree right) {
        static Tree of(String top) {
            return new Tree(top, 0, null, null);
        }
    }

    record Person(String name, int keeps, int itches, int party, int seat) { }

    record Mute(String name, int keeps, int costs) { }

    record Point(String name, int judge, int rogue) { }

    record Noise(int minute, int seat, int loud) { }

    record Hatred(int one, int other) { }

    static final class Hall {
        int seats = 0;
        int statements = 0;
        final List<Person> people = new ArrayList<>();
        final List<Mute> mutes = new ArrayList<>();
        final List<Point> points = new ArrayList<>();
        final List<Noise> noises = new ArrayList<>();
        final List<Hatred> hatreds = new ArrayList<>();
        Tree weigh = null;
        Tree cough = null;
    }

    static final class State {
        int minute = 0;
        int scale = 0;
        int asked = NONE;
        final TreeMap<Integer, Integer> seat = new TreeMap<>();
        final Map<Integer, Integer> party = new TreeMap<>();
        final List<int[]> kept = new ArrayList<>();

        State copy() {
            State other = new State();
            other.minute = minute;
            other.scale = scale;
            other.asked = asked;
            other.seat.putAll(seat);
            other.party.putAll(party);
            other.kept.addAll(kept);
            return other;
        }

        int whoAt(int where) {
            for (Map.Entry<Integer, Integer> one : seat.entrySet()) {
                if (one.getValue() == where) {
                    return one.getKey();
                }
            }
            return NONE;
        }
    }

    Hall hall = new Hall();
    State now = new State();
    final Deque<State> past = new ArrayDeque<>();
    long x = 1;
    final int[] refused = new int[6];
    List<Integer> image = new ArrayList<>();

    void begin(Hall told) {
        hall = told;
        now = new State();
        past.clear();
        for (int k = 0; k < hall.people.size(); k++) {
            now.seat.put(k, hall.people.get(k).seat());
            now.party.put(k, hall.people.get(k).party());
        }
    }

    boolean no(int which) {
        refused[which]++;
        return false;
    }

    // ---- terms II

    int keeps(int who) {
        return who < 10 ? hall.people.get(who).keeps() : hall.mutes.get(who - 10).keeps();
    }

    int itches(int who) {
        return who < 10 ? hall.people.get(who).itches() : 0;
    }

    int near(State s, int who) {
        int many = 0;
        for (int other : s.seat.keySet()) {
            many += Math.abs(s.seat.get(who) - s.seat.get(other)) == 1 ? 1 : 0;
        }
        return many;
    }

    int hated(State s, int who) {
        int many = 0;
        for (int other : s.seat.keySet()) {
            boolean foes = hall.hatreds.contains(new Hatred(who, other)) || hall.hatreds.contains(new Hatred(other, who));
            many += Math.abs(s.seat.get(who) - s.seat.get(other)) == 1 && foes ? 1 : 0;
        }
        return many;
    }

    int told(State s, int who) {
        int party = s.party.get(who);
        if (s.asked == NONE || party == 2) {
            return 0;
        }
        return party == 0 ? hall.points.get(s.asked).judge() : hall.points.get(s.asked).rogue();
    }

    int noise(int seat, int minute) {
        int all = 0;
        for (Noise one : hall.noises) {
            if (one.minute() == minute && one.loud() > Math.abs(one.seat() - seat)) {
                all += one.loud() - Math.abs(one.seat() - seat);
            }
        }
        return all;
    }

    static long cut(long value) {
        return Math.max(-1000000, Math.min(1000000, value));
    }

    long value(Tree t, State s, int who) {
        switch (t.top()) {
            case "N": return t.number();
            case "keeps": return keeps(who);
            case "itches": return itches(who);
            case "near": return near(s, who);
            case "hated": return hated(s, who);
            case "asked": return told(s, who);
            case "noise": return noise(s.seat.get(who), s.minute);
            case "seat": return s.seat.get(who);
            case "minute": return s.minute;
            case "number": return who;
            case "party": return s.party.get(who);
            case "all": return 1;
            default:
        }
        long a = value(t.left(), s, who);
        if (t.top().equals("beside")) {
            Integer other = s.seat.get((int) a);
            return other != null && Math.abs(other - s.seat.get(who)) == 1 ? 1 : 0;
        }
        if (t.top().equals("not")) {
            return a == 0 ? 1 : 0;
        }
        long b = value(t.right(), s, who);
        switch (t.top()) {
            case "+": return cut(a + b);
            case "-": return cut(a - b);
            case "*": return cut(a * b);
            case "/": return b == 0 ? 0 : new java.math.BigDecimal(a).divide(new java.math.BigDecimal(b), 0,
                    java.math.RoundingMode.FLOOR).longValueExact();
            case "min": return a < b ? a : b;
            case "max": return a > b ? a : b;
            case "<": return a < b ? 1 : 0;
            case ">": return a > b ? 1 : 0;
            case "=": return a == b ? 1 : 0;
            case "and": return a != 0 && b != 0 ? 1 : 0;
            case "or": return a != 0 || b != 0 ? 1 : 0;
            default: throw new IllegalStateException(t.top());
        }
    }

    int weight(State s, int who) {
        return hall.weigh == null ? keeps(who) : (int) Math.max(0, Math.min(999, value(hall.weigh, s, who)));
    }

    int cough(State s, int who) {
        return hall.cough == null ? 5 : (int) Math.max(0, Math.min(999, value(hall.cough, s, who)));
    }

    /** What the judge has more by this MINUTE if these PEOPLE cough. */
    int moves(State s, int coughing) {
        int judge = 0;
        int rogue = 0;
        for (int who : s.seat.keySet()) {
            int more = who < 10 && (coughing >> who & 1) == 1 ? -cough(s, who) : weight(s, who);
            judge += s.party.get(who) == 0 ? more : 0;
            rogue += s.party.get(who) == 1 ? more : 0;
        }
        return judge - rogue;
    }

    BigInteger chance(int coughing) {
        BigInteger chance = BigInteger.ONE;
        for (int k = 0; k < hall.people.size(); k++) {
            int itch = itches(k);
            chance = chance.multiply(BigInteger.valueOf((coughing >> k & 1) == 1 ? itch : 100 - itch));
        }
        return chance;
    }

    int sets() {
        return 1 << hall.people.size();
    }

    /** In hundredths, of the MINUTE of the state. */
    long meanMove(State s) {
        BigInteger all = BigInteger.ZERO;
        for (int set = 0; set < sets(); set++) {
            BigInteger chance = chance(set);
            if (chance.signum() != 0) {
                all = all.add(chance.multiply(BigInteger.valueOf(moves(s, set))));
            }
        }
        BigInteger[] parts = all.multiply(BigInteger.valueOf(100))
                .divideAndRemainder(BigInteger.valueOf(100).pow(hall.people.size()));
        if (parts[1].signum() != 0) {
            throw new IllegalStateException("a mean that is no hundredth");
        }
        return parts[0].longValueExact();
    }

    long meanOf(State from, int n) {
        State s = from.copy();
        long mean = 100L * s.scale;
        for (int k = 0; k < n; k++) {
            mean += meanMove(s);
            s.minute++;
        }
        return mean;
    }

    // ---- terms III

    long mean(int n) {
        return n < 0 || n > 200 || now.minute + n > 999 ? NOTHING : meanOf(now, n);
    }

    int odds(int what) {
        if (what < 0 || what > 2) {
            return NONE;
        }
        BigInteger all = BigInteger.ZERO;
        for (int set = 0; set < sets(); set++) {
            int sign = Integer.signum(moves(now, set));
            if (sign == (what == 0 ? 1 : what == 1 ? -1 : 0)) {
                all = all.add(chance(set));
            }
        }
        return all.multiply(BigInteger.valueOf(1000000)).divide(BigInteger.valueOf(100).pow(hall.people.size())).intValueExact();
    }

    int hire(int party, int n, int least, int what) {
        if (party < 0 || party > 1 || n < 1 || n > 50 || now.minute + n > 999 || what < 0 || what > 2) {
            return NONE;
        }
        List<int[]> good = new ArrayList<>();
        for (int bits = 0; bits < 1 << hall.mutes.size(); bits++) {
            State s = now.copy();
            int costs = 0;
            boolean can = true;
            for (int k = 0; k < hall.mutes.size() && can; k++) {
                if ((bits >> k & 1) == 1) {
                    int seat = 0;
                    while (seat < hall.seats && s.whoAt(seat) != NONE) {
                        seat++;
                    }
                    can = seat < hall.seats && !s.seat.containsKey(10 + k);
                    costs += hall.mutes.get(k).costs();
                    s.seat.put(10 + k, seat);
                    s.party.put(10 + k, party);
                }
            }
            if (can && (party == 0 ? meanOf(s, n) : -meanOf(s, n)) >= least) {
                good.add(new int[] {Integer.bitCount(bits), bits, costs});
            }
        }
        good.sort(Comparator.<int[]>comparingInt(r -> r[0]).thenComparingInt(r -> r[2]).thenComparingInt(r -> r[1]));
        return good.isEmpty() ? NONE : good.get(0)[what];
    }

    int change(int party, int what) {
        if (party < 0 || party > 1 || what < 0 || what > 1) {
            return NONE;
        }
        int[] best = null;
        long most = party == 0 ? meanMove(now) : -meanMove(now);
        for (int one : now.seat.keySet()) {
            for (int other : now.seat.tailMap(one, false).keySet()) {
                State s = now.copy();
                s.seat.put(one, now.seat.get(other));
                s.seat.put(other, now.seat.get(one));
                long move = party == 0 ? meanMove(s) : -meanMove(s);
                if (move > most) {
                    most = move;
                    best = new int[] {one, other};
                }
            }
        }
        return best == null ? NONE : best[what];
    }

    /** The MEAN behind all turns from this one on, what is asked in each. */
    private long[] play(State s, long mean, int turn, int n) {
        long[] best = null;
        if (turn == n) {
            return new long[] {mean, 0, 0, 0};
        }
        for (int p = 0; p < hall.points.size(); p++) {
            State t = s.copy();
            t.asked = p;
            long move = meanMove(t);
            t.minute++;
            long[] line = play(t, mean + move, turn + 1, n);
            line[1 + turn] = p;
            if (best == null || (turn % 2 == 0 ? line[0] > best[0] : line[0] < best[0])) {
                best = line;
            }
        }
        return best;
    }

    long points(int n, int k) {
        if (hall.points.isEmpty() || n < 1 || n > 3 || now.minute + n > 999 || k < -1 || k >= n) {
            return NOTHING;
        }
        return play(now, 100L * now.scale, 0, n)[1 + k];
    }

    int fell(int by, int what) {
        if (what < 0 || what > 2) {
            return NONE;
        }
        List<Integer> found = new ArrayList<>();
        for (int set = 0; set < sets(); set++) {
            boolean can = true;
            for (int k = 0; k < hall.people.size(); k++) {
                can = can && ((set >> k & 1) == 0 || itches(k) > 0);
            }
            if (can && moves(now, set) == by) {
                found.add(set);
            }
        }
        if (what == 0) {
            return found.size();
        }
        return what == 1 ? found.stream().reduce((a, b) -> a & b).orElse(0) : found.stream().reduce(0, (a, b) -> a | b);
    }

    int asked(int by, int coughing) {
        if (coughing < 0 || coughing >= sets()) {
            return NONE;
        }
        int bits = 0;
        for (int p = 0; p < hall.points.size(); p++) {
            State s = now.copy();
            s.asked = p;
            bits += moves(s, coughing) == by ? 1 << p : 0;
        }
        return bits;
    }

    int loudest(int n) {
        if (hall.noises.isEmpty() || n < 1 || n > 200 || now.minute + n > 999) {
            return NONE;
        }
        long with = meanOf(now, n);
        long most = -1;
        int best = NONE;
        for (int k = 0; k < hall.noises.size(); k++) {
            Noise out = hall.noises.get(k);
            hall.noises.set(k, new Noise(NONE, 0, 1));
            long differs = Math.abs(meanOf(now, n) - with);
            hall.noises.set(k, out);
            if (differs > most) {
                most = differs;
                best = k;
            }
        }
        return best;
    }

    // ---- acts

    private void keepPast() {
        past.addLast(now.copy());
        if (past.size() > 20) {
            past.removeFirst();
        }
    }

    int minutes(int n) {
        if (hall.seats == 0 || n < 1 || n > 100 || now.minute + n > 999) {
            no(2);
            return NONE;
        }
        keepPast();
        int coughs = 0;
        for (int k = 0; k < n; k++) {
            int set = 0;
            for (int who : now.seat.keySet()) {
                if (itches(who) > 0) {
                    x = (1103515245L * x + 12345L) % (1L << 31);
                    if (x / 64 % 100 < itches(who)) {
                        set |= 1 << who;
                        now.kept.add(new int[] {now.minute, who, cough(now, who)});
                        coughs++;
                    }
                }
            }
            now.scale = Math.max(-99999, Math.min(99999, now.scale + moves(now, set)));
            now.minute++;
        }
        return coughs;
    }

    boolean point(int p) {
        if (p < -1 || p >= hall.points.size() || p == now.asked) {
            return no(3);
        }
        keepPast();
        now.asked = p;
        return true;
    }

    boolean move(int who, int seat) {
        if (!now.seat.containsKey(who) || seat < 0 || seat >= hall.seats || now.seat.get(who) == seat) {
            return no(3);
        }
        keepPast();
        int other = now.whoAt(seat);
        if (other != NONE) {
            now.seat.put(other, now.seat.get(who));
        }
        now.seat.put(who, seat);
        return true;
    }

    boolean take(int mute, int party, int seat) {
        if (mute < 0 || mute >= hall.mutes.size() || now.seat.containsKey(10 + mute) || party < 0 || party > 1
                || seat < 0 || seat >= hall.seats || now.whoAt(seat) != NONE) {
            return no(3);
        }
        keepPast();
        now.seat.put(10 + mute, seat);
        now.party.put(10 + mute, party);
        return true;
    }

    boolean dismiss(int mute) {
        if (mute < 0 || mute >= hall.mutes.size() || !now.seat.containsKey(10 + mute)) {
            return no(3);
        }
        keepPast();
        now.seat.remove(10 + mute);
        now.party.remove(10 + mute);
        return true;
    }

    boolean undo() {
        if (past.isEmpty()) {
            return no(4);
        }
        now = past.removeLast();
        return true;
    }

    boolean seed(int seed) {
        if (seed < 0) {
            return no(5);
        }
        x = seed;
        return true;
    }

    // ---- terms IV

    long ask(String verb, Tree tree) {
        if (hall.seats == 0) {
            return NOTHING;
        }
        List<Long> values = new ArrayList<>();
        List<Integer> holds = new ArrayList<>();
        for (int who : now.seat.keySet()) {
            long value = value(tree, now, who);
            values.add(value);
            if (value != 0) {
                holds.add(who);
            }
        }
        switch (verb) {
            case "first": return holds.isEmpty() ? NONE : holds.get(0);
            case "last": return holds.isEmpty() ? NONE : holds.get(holds.size() - 1);
            case "often": return holds.size();
            case "total": return values.stream().mapToLong(v -> v).sum();
            case "most": return values.stream().mapToLong(v -> v).max().orElse(0);
            default: return values.stream().mapToLong(v -> v).min().orElse(0);
        }
    }

    List<Integer> imageNow() {
        List<Integer> all = new ArrayList<>();
        all.add(now.minute / 256);
        all.add(now.minute % 256);
        all.add((now.scale + 100000) / 65536);
        all.add((now.scale + 100000) / 256 % 256);
        all.add((now.scale + 100000) % 256);
        all.add(now.asked + 1);
        for (int k = 0; k < hall.people.size(); k++) {
            all.add(now.seat.get(k));
        }
        for (int k = 0; k < hall.mutes.size(); k++) {
            boolean hired = now.seat.containsKey(10 + k);
            all.add(hired ? now.seat.get(10 + k) + 1 : 0);
            all.add(hired ? now.party.get(10 + k) : 0);
        }
        int c = 229;
        for (int octet : all) {
            c = (3 * c + octet) % 251;
        }
        all.add(c);
        return all;
    }

    /** An IMAGE is one if the state that it would tell tells it again. */
    boolean on(List<Integer> octets) {
        int people = hall.people.size();
        if (hall.seats == 0 || octets.size() != 7 + people + 2 * hall.mutes.size()) {
            return no(5);
        }
        State before = now;
        State s = new State();
        s.minute = octets.get(0) * 256 + octets.get(1);
        s.scale = octets.get(2) * 65536 + octets.get(3) * 256 + octets.get(4) - 100000;
        s.asked = octets.get(5) - 1;
        boolean good = s.minute <= 999 && Math.abs(s.scale) <= 99999 && s.asked < hall.points.size();
        for (int k = 0; k < people; k++) {
            good = good && octets.get(6 + k) < hall.seats && s.whoAt(octets.get(6 + k)) == NONE;
            s.seat.put(k, octets.get(6 + k));
            s.party.put(k, hall.people.get(k).party());
        }
        for (int k = 0; k < hall.mutes.size(); k++) {
            int seat = octets.get(6 + people + 2 * k) - 1;
            if (seat >= 0) {
                good = good && seat < hall.seats && s.whoAt(seat) == NONE && octets.get(7 + people + 2 * k) < 2;
                s.seat.put(10 + k, seat);
                s.party.put(10 + k, octets.get(7 + people + 2 * k));
            }
        }
        now = s;
        if (!good || !imageNow().equals(octets)) {
            now = before;
            return no(5);
        }
        past.clear();
        return true;
    }

    int has(int what) {
        int[] all = {hall.seats, hall.people.size(), hall.points.size(), hall.noises.size(), hall.mutes.size(),
            now.seat.tailMap(10).size(), now.minute, now.asked, hall.hatreds.size(), Math.min(40, now.kept.size()), past.size()};
        return what < 0 || what >= all.length ? NONE : all[what];
    }

    int kept(int k, int what) {
        int many = Math.min(40, now.kept.size());
        return k < 0 || k >= many || what < 0 || what > 2 ? NONE : now.kept.get(now.kept.size() - many + k)[what];
    }

    int sits(int who, int what) {
        if (!now.seat.containsKey(who)) {
            return NONE;
        }
        switch (what) {
            case 0: return now.seat.get(who);
            case 1: return now.party.get(who);
            case 2: return keeps(who);
            case 3: return itches(who);
            case 4: return near(now, who);
            case 5: return hated(now, who);
            case 6: return weight(now, who);
            case 7: return cough(now, who);
            default: return NONE;
        }
    }

    int mute(int mute, int what) {
        if (mute < 0 || mute >= hall.mutes.size() || what < 0 || what > 2) {
            return NONE;
        }
        Mute one = hall.mutes.get(mute);
        return what == 0 ? one.keeps() : what == 1 ? one.costs() : now.seat.containsKey(10 + mute) ? 1 : 0;
    }

    int letter(int kind, int which, int k) {
        List<String> names = new ArrayList<>();
        if (kind == 0) {
            hall.people.forEach(p -> names.add(p.name()));
        } else if (kind == 1) {
            hall.mutes.forEach(m -> names.add(m.name()));
        } else if (kind == 2) {
            hall.points.forEach(p -> names.add(p.name()));
        }
        if (which < 0 || which >= names.size() || k < 0 || k > 5) {
            return NONE;
        }
        return k < names.get(which).length() ? names.get(which).charAt(k) - 96 : 0;
    }
}
