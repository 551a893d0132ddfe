import java.util.ArrayList;
import java.util.HashSet;
import java.util.List;
import java.util.Random;
import java.util.Set;

/** Promises 1 to 33: long runs of calls by chance (always the same ones), each answer held against the Model. */
public final class ModelTest {
    private static final String OWN = " hall person keeps itches for judge rogue nobody at hates point noise seat loud mute costs"
            + " weigh cough near hated asked minute number party or and not all min max beside ";
    private static final String[] PARTIES = {"judge", "rogue", "nobody"};
    private static final String[] HALL_PARTS = {"keeps", "itches", "near", "hated", "asked", "noise", "seat", "minute"};
    private static final String[] PARTS = {"keeps", "itches", "near", "hated", "asked", "noise", "seat", "minute",
        "number", "party"};

    private final Random chance;
    private final SilentCourt court = new SilentCourt();
    private final Model model = new Model();
    private int run;

    private ModelTest(int run) {
        this.run = run;
        this.chance = new Random(run);
    }

    public static void main(String[] args) {
        int runs = args.length > 0 ? Integer.parseInt(args[0]) : 2000;
        for (int run = 0; run < runs; run++) {
            new ModelTest(run).go();
        }
        Due.end();
    }

    private int below(int n) {
        return chance.nextInt(n);
    }

    private int from(int least, int most) {
        return least + below(most - least + 1);
    }

    private void is(String what, long got, long want) {
        Due.is("run " + run + ": " + what, got, want);
    }

    private void is(String what, boolean got, boolean want) {
        Due.is("run " + run + ": " + what, got, want);
    }

    private void go() {
        if (below(8) > 0) {
            newHall();
        }
        if (below(4) == 0) {
            late();
        }
        // an object is good for 512 calls
        int rounds = from(5, 20);
        for (int k = 0; k < rounds; k++) {
            if (below(60) == 0) {
                newHall();
            }
            act();
            look();
            advise();
        }
        for (int what = -1; what < 7; what++) {
            is("status " + what, court.status(what), what < 0 || what > 5 ? -1 : model.refused[what]);
        }
    }

    // ---- texts

    private String gap() {
        return below(3) > 0 ? " " : below(2) == 0 ? "\n" : "  \n ";
    }

    private String maybe() {
        return below(4) > 0 ? "" : gap();
    }

    private String words(Object... parts) {
        StringBuilder all = new StringBuilder(maybe());
        for (int k = 0; k < parts.length; k++) {
            all.append(k == 0 ? "" : gap()).append(parts[k]);
        }
        return all.append(maybe()).append(";").toString();
    }

    private String name(Set<String> names) {
        while (true) {
            StringBuilder name = new StringBuilder();
            int length = from(1, 6);
            for (int k = 0; k < length; k++) {
                name.append((char) ('a' + below(below(2) == 0 ? 26 : 3)));
            }
            if (!OWN.contains(" " + name + " ") && names.add(name.toString())) {
                return name.toString();
            }
        }
    }

    private void newHall() {
        Model.Hall told = new Model.Hall();
        Set<String> names = new HashSet<>();
        told.seats = from(2, 9);
        StringBuilder text = new StringBuilder(words("hall", told.seats));
        told.statements = 1;
        int wanted = from(0, 30);
        int itchiness = below(3);
        for (int k = 0; k < wanted; k++) {
            String next = statement(told, names, itchiness);
            if (next != null && text.length() + next.length() < 1500) {
                text.append(next);
                told.statements++;
            }
        }
        text.append(maybe());
        is("hall " + text, Due.hall(court, text.toString()), told.statements);
        is("fault", court.fault(0), 0);
        is("place", court.fault(1), -1);
        model.begin(told);
    }

    private String statement(Model.Hall told, Set<String> names, int itchiness) {
        switch (below(12)) {
            case 0: case 1: case 2: case 3: return person(told, names, itchiness);
            case 4: case 5: return hatred(told);
            case 6: {
                if (told.points.size() == 4) {
                    return null;
                }
                Model.Point one = new Model.Point(name(names), from(0, 99), from(0, 99));
                told.points.add(one);
                return words("point", one.name(), "judge", one.judge(), "rogue", one.rogue());
            }
            case 7: case 8: {
                if (told.noises.size() == 6) {
                    return null;
                }
                Model.Noise one = new Model.Noise(below(3) == 0 ? below(100) : below(4), below(told.seats), from(1, 9));
                told.noises.add(one);
                return words("noise", "at", one.minute(), "seat", one.seat(), "loud", one.loud());
            }
            case 9: {
                if (told.mutes.size() == 6) {
                    return null;
                }
                Model.Mute one = new Model.Mute(name(names), from(1, 99), from(0, below(2) == 0 ? 99 : 3));
                told.mutes.add(one);
                return words("mute", one.name(), "keeps", one.keeps(), "costs", one.costs());
            }
            case 10: {
                if (told.weigh != null) {
                    return null;
                }
                told.weigh = sum(3, false);
                return words("weigh", written(told.weigh));
            }
            default: {
                if (told.cough != null) {
                    return null;
                }
                told.cough = sum(2, false);
                return words("cough", written(told.cough));
            }
        }
    }

    private String person(Model.Hall told, Set<String> names, int itchiness) {
        List<Integer> free = new ArrayList<>();
        for (int seat = 0; seat < told.seats; seat++) {
            free.add(seat);
        }
        told.people.forEach(p -> free.remove((Integer) p.seat()));
        if (told.people.size() == 8 || free.isEmpty()) {
            return null;
        }
        int itches = itchiness == 0 ? from(0, 100) : itchiness == 1 ? 50 * below(3) : from(0, 15);
        int keeps = itchiness == 1 ? from(1, 4) : from(1, 99);
        Model.Person one = new Model.Person(name(names), keeps, itches, below(3), free.get(below(free.size())));
        told.people.add(one);
        return words("person", one.name(), "keeps", one.keeps(), "itches", one.itches(), "for", PARTIES[one.party()],
                "at", one.seat());
    }

    private String hatred(Model.Hall told) {
        List<Integer> numbers = new ArrayList<>();
        List<String> named = new ArrayList<>();
        for (int k = 0; k < told.people.size(); k++) {
            numbers.add(k);
            named.add(told.people.get(k).name());
        }
        for (int k = 0; k < told.mutes.size(); k++) {
            numbers.add(10 + k);
            named.add(told.mutes.get(k).name());
        }
        if (numbers.size() < 2 || told.hatreds.size() == 12) {
            return null;
        }
        int one = below(numbers.size());
        int other = below(numbers.size());
        Model.Hatred hatred = new Model.Hatred(numbers.get(one), numbers.get(other));
        if (one == other || told.hatreds.contains(hatred)) {
            return null;
        }
        told.hatreds.add(hatred);
        return words("hates", named.get(one), named.get(other));
    }

    private Model.Tree sum(int depth, boolean asking) {
        int kind = depth == 0 ? below(4) : below(10);
        if (kind == 0) {
            int number = below(4) == 0 ? below(10000) : below(12);
            return new Model.Tree("N", number, null, null);
        }
        if (kind < 4) {
            String[] parts = asking ? PARTS : HALL_PARTS;
            return Model.Tree.of(parts[below(parts.length)]);
        }
        if (asking && kind == 4) {
            return new Model.Tree("beside", 0, sum(depth - 1, true), null);
        }
        String[] tops = {"+", "-", "*", "/", "min", "max", "+", "-"};
        return new Model.Tree(tops[below(tops.length)], 0, sum(depth - 1, asking), sum(depth - 1, asking));
    }

    private Model.Tree test(int depth) {
        int kind = depth == 0 ? 0 : below(7);
        if (kind == 1) {
            return Model.Tree.of("all");
        }
        if (kind == 2) {
            return new Model.Tree("not", 0, test(depth - 1), null);
        }
        if (kind > 4) {
            return new Model.Tree(kind == 5 ? "and" : "or", 0, test(depth - 1), test(depth - 1));
        }
        String[] signs = {"<", ">", "="};
        return new Model.Tree(signs[below(3)], 0, sum(2, true), sum(1, true));
    }

    private static int binds(Model.Tree t) {
        switch (t.top()) {
            case "or": return 0;
            case "and": return 1;
            case "not": case "all": case "<": case ">": case "=": return 2;
            case "+": case "-": return 3;
            case "*": case "/": return 4;
            default: return 5;
        }
    }

    private String written(Model.Tree t) {
        String gap = maybe();
        switch (t.top()) {
            case "N": return "" + t.number();
            case "min": case "max":
                return t.top() + gap + "(" + maybe() + written(t.left()) + "," + written(t.right()) + maybe() + ")";
            case "beside": return "beside " + part(t.left(), 5);
            case "not": return "not " + part(t.left(), 2);
            case "or": case "and":
                return part(t.left(), binds(t)) + " " + t.top() + " " + part(t.right(), binds(t) + 1);
            case "<": case ">": case "=": return part(t.left(), 3) + gap + t.top() + maybe() + part(t.right(), 3);
            case "+": case "-": case "*": case "/":
                return part(t.left(), binds(t)) + gap + t.top() + maybe() + part(t.right(), binds(t) + 1);
            default: return t.top();
        }
    }

    private String part(Model.Tree t, int least) {
        boolean ofTest = binds(t) < 3;
        if (binds(t) >= least && below(8) > 0) {
            return written(t);
        }
        return (ofTest ? "[" : "(") + maybe() + written(t) + maybe() + (ofTest ? "]" : ")");
    }

    private static int deepest(String text) {
        int open = 0;
        int most = 0;
        for (char c : text.toCharArray()) {
            open += c == '(' || c == '[' ? 1 : c == ')' || c == ']' ? -1 : 0;
            most = Math.max(most, open);
        }
        return most + text.split("not|beside", -1).length - 1;
    }

    // ---- calls

    private int who() {
        return below(10) == 0 ? from(-2, 17) : below(3) == 0 ? 10 + below(6) : below(8);
    }

    private void act() {
        int a = from(-1, 6);
        int b = from(-1, 2);
        int c = from(-1, 9);
        switch (below(12)) {
            case 0: case 1: {
                int n = below(6) == 0 ? from(-1, 101) : from(1, 4);
                is("minutes " + n, court.minutes(n), model.minutes(n));
                break;
            }
            case 2: case 3: is("point " + (a - 1), court.point(a - 1), model.point(a - 1)); break;
            case 4: case 5: {
                int who = who();
                is("move " + who + " " + c, court.move(who, c), model.move(who, c));
                break;
            }
            case 6: case 7: is("take " + a + " " + b + " " + c, court.take(a, b, c), model.take(a, b, c)); break;
            case 8: is("dismiss " + a, court.dismiss(a), model.dismiss(a)); break;
            case 9: is("undo", court.undo(), model.undo()); break;
            case 10: {
                int seed = below(4) == 0 ? chance.nextInt() : below(1000);
                is("seed " + seed, court.seed(seed), model.seed(seed));
                break;
            }
            default: images();
        }
    }

    private void images() {
        List<Integer> image = model.imageNow();
        is("image", court.image(), image.size());
        model.image = image;
        for (int k = 0; k < image.size(); k++) {
            is("octet " + k, court.octet(k), image.get(k));
        }
        if (below(4) == 0) {
            List<Integer> other = new ArrayList<>(image.subList(0, image.size() - 1));
            int changes = below(3);
            for (int k = 0; k < changes; k++) {
                int at = below(other.size());
                other.set(at, below(3) == 0 ? below(256) : Math.floorMod(other.get(at) + from(-1, 1), 256));
            }
            if (below(10) == 0) {
                other.add(0);
            }
            int[] octets = Due.sealed(other.stream().mapToInt(v -> v).toArray());
            octets[octets.length - 1] = (octets[octets.length - 1] + (below(6) == 0 ? 1 : 0)) % 256;
            List<Integer> told = new ArrayList<>();
            for (int octet : octets) {
                told.add(octet);
            }
            is("on " + told, Due.on(court, octets), model.on(told));
        }
    }

    /** Near the last MINUTE, near the end of the SCALE. */
    private void late() {
        Model.State s = model.now;
        int minute = s.minute;
        int scale = s.scale;
        s.minute = from(985, 999);
        s.scale = below(2) == 0 ? from(99990, 99999) : from(-99999, -99900);
        List<Integer> told = model.imageNow();
        s.minute = minute;
        s.scale = scale;
        is("on " + told, Due.on(court, told.stream().mapToInt(v -> v).toArray()), model.on(told));
    }

    private void look() {
        int what = from(-1, 11);
        is("has " + what, court.has(what), model.has(what));
        is("scale", court.scale(), model.now.scale);
        int who = who();
        int fact = from(-1, 8);
        is("sits " + who + " " + fact, court.sits(who, fact), model.sits(who, fact));
        int seat = from(-1, 9);
        is("seat " + seat, court.seat(seat), model.now.whoAt(seat));
        int mute = from(-1, 6);
        int of = from(-1, 3);
        is("mute " + mute + " " + of, court.mute(mute, of), model.mute(mute, of));
        int minute = below(10) == 0 ? from(-1, 1001) : below(5);
        boolean there = seat >= 0 && seat < model.hall.seats && minute >= 0 && minute < 1000;
        is("noise " + seat + " " + minute, court.noise(seat, minute), there ? model.noise(seat, minute) : -1);
        int k = from(-1, 40);
        is("kept " + k + " " + of, court.kept(k, of), model.kept(k, of));
        is("letter " + of + " " + mute, court.letter(of, mute, seat), model.letter(of, mute, seat));
        int at = from(-1, 30);
        is("octet " + at, court.octet(at), at < 0 || at >= model.image.size() ? -1 : model.image.get(at));
        question();
    }

    private void question() {
        String[] verbs = {"first", "last", "often", "total", "most", "least"};
        int verb = below(6);
        Model.Tree tree = verb < 3 ? test(2) : sum(3, true);
        String text = maybe() + verbs[verb] + gap() + written(tree) + maybe();
        if (text.length() < 1600 && deepest(text) <= 6) {
            is("ask " + text, Due.ask(court, text), model.ask(verbs[verb], tree));
        }
    }

    private void advise() {
        int what = from(-1, 3);
        int party = below(8) == 0 ? from(-1, 2) : below(2);
        switch (below(9)) {
            case 0: {
                int n = below(4) == 0 ? from(-1, 201) : below(5);
                n = model.hall.people.size() > 5 ? Math.min(n, 5) : n;
                is("mean " + n, court.mean(n), model.mean(n));
                break;
            }
            case 1: is("odds " + what, court.odds(what), model.odds(what)); break;
            case 2: hire(party, what); break;
            case 3: is("change " + party + what, court.change(party, what), model.change(party, what)); break;
            case 4: {
                int n = from(0, 4);
                is("points " + n + " " + what, court.points(n, what), model.points(n, what));
                break;
            }
            case 5: case 6: {
                int by = below(4) == 0 ? from(-9, 9) : model.moves(model.now, below(model.sets()));
                is("fell " + by + " " + what, court.fell(by, what), model.fell(by, what));
                break;
            }
            case 7: {
                int coughing = below(5) == 0 ? from(-2, 256) : below(model.sets());
                Model.State s = model.now.copy();
                s.asked = below(model.hall.points.size() + 1) - 1;
                int by = model.moves(s, Math.floorMod(coughing, model.sets()));
                is("asked " + by + " " + coughing, court.asked(by, coughing), model.asked(by, coughing));
                break;
            }
            default: {
                int n = model.hall.people.size() > 4 ? below(4) : below(6) == 0 ? from(-1, 201) : from(1, 5);
                is("loudest " + n, court.loudest(n), model.loudest(n));
            }
        }
    }

    private void hire(int party, int what) {
        int n = model.hall.people.size() > 4 || model.hall.mutes.size() > 3 ? from(0, 1) : below(5) == 0 ? from(-1, 51) : from(1, 3);
        long mean = model.mean(Math.max(0, Math.min(n, 50)));
        int more = below(3) == 0 ? 0 : from(-5000, 20000);
        int least = (int) ((mean == Model.NOTHING ? 0 : party == 1 ? -mean : mean) + more);
        is("hire " + party + " " + n + " " + least + " " + what, court.hire(party, n, least, what),
                model.hire(party, n, least, what));
    }
}
