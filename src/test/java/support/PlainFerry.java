import java.util.ArrayDeque;
import java.util.ArrayList;
import java.util.Deque;
import java.util.HashMap;
import java.util.HashSet;
import java.util.List;
import java.util.Map;
import java.util.Set;
import java.util.regex.Matcher;
import java.util.regex.Pattern;

/**
 * The document once more, in another way than FallowFerry: by sets, lists and exceptions, slow, with every PLAN
 * tried where PLANS are counted. AgainstPlainTest holds both against each other.
 */
final class PlainFerry {
    private record Thing(int bank, int wants, int rent, int weight) { }

    private record Pair(int a, int b) { }

    private record Standing(Set<Integer> far, int ferry) {
        int bank(int t) {
            return far.contains(t) ? 1 : 0;
        }
    }

    private record Past(Standing standing, int days) { }

    private record Kept(Standing standing, int days, int ice, int lot, List<Past> past) { }

    private record Seen(int c, int t, int bank) { }

    private record Token(int place, String sign) { }

    private static final class Fault extends Exception {
        private static final long serialVersionUID = 1L;
        final int place;

        Fault(int place) {
            this.place = place;
        }
    }

    private StringBuilder text = new StringBuilder();
    private List<Thing> things = new ArrayList<>();
    private List<Pair> pairs = new ArrayList<>();
    private Map<String, Integer> told = new HashMap<>();
    private Standing standing = new Standing(Set.of(), 0);
    private int days = 9;
    private int ice = 0;
    private int lot = 1;
    private List<Past> past = new ArrayList<>();
    private final List<Seen> seen = new ArrayList<>();
    private final Map<Integer, Kept> images = new HashMap<>();
    private long trace = 0;

    // ---- the river

    int type(long v, int n) {
        if (n < 1 || n > 8) return -1;
        if (text.length() + n > 200) return -3;
        String hex = String.format("%016x", v);
        for (int k = 8 - n; k < 8; k++) text.append((char) Integer.parseInt(hex.substring(2 * k, 2 * k + 2), 16));
        return text.length();
    }

    int clear() {
        int had = text.length();
        text = new StringBuilder();
        return had;
    }

    int river() {
        List<Thing> newThings = new ArrayList<>();
        List<Pair> newPairs = new ArrayList<>();
        Map<String, Integer> newTold = new HashMap<>();
        int items;
        try {
            items = readItems(tokens(), newThings, newPairs, newTold);
        } catch (Fault fault) {
            return -10 - fault.place;
        }
        text = new StringBuilder();
        things = newThings;
        pairs = newPairs;
        told = newTold;
        standing = beginning();
        days = told.getOrDefault("days", 9);
        ice = 0;
        past = new ArrayList<>();
        seen.clear();
        images.clear();
        return items;
    }

    private Deque<Token> tokens() {
        Deque<Token> all = new ArrayDeque<>();
        Matcher m = Pattern.compile("[a-z]+|[0-9]+|[^ ]", Pattern.DOTALL).matcher(text);
        while (m.find()) all.add(new Token(m.start(), m.group()));
        all.add(new Token(text.length(), ""));
        return all;
    }

    private static int readItems(Deque<Token> tokens, List<Thing> things, List<Pair> pairs, Map<String, Integer> told)
            throws Fault {
        int items = 0;
        while (!tokens.peek().sign.isEmpty()) {
            Token word = tokens.poll();
            switch (word.sign) {
                case "thing" -> {
                    if (things.size() == 7) throw new Fault(word.place);
                    things.add(new Thing(number(tokens, 0, 1), number(tokens, 0, 2), number(tokens, 0, 9),
                        number(tokens, 1, 9)));
                }
                case "fears" -> {
                    if (pairs.size() == 8) throw new Fault(word.place);
                    int a = number(tokens, 0, things.size() - 1);
                    int placeOfB = tokens.peek().place;
                    int b = number(tokens, 0, things.size() - 1);
                    if (a == b) throw new Fault(placeOfB);
                    pairs.add(new Pair(a, b));
                }
                case "ferry", "load", "days", "frost" -> {
                    if (told.containsKey(word.sign)) throw new Fault(word.place);
                    int least = word.sign.equals("load") ? 1 : 0;
                    int most = word.sign.equals("ferry") ? 1 : word.sign.equals("frost") ? 9 : 20;
                    told.put(word.sign, number(tokens, least, most));
                }
                default -> throw new Fault(word.place);
            }
            Token stop = tokens.poll();
            if (!stop.sign.equals(";")) throw new Fault(stop.place);
            items++;
        }
        return items;
    }

    private static int number(Deque<Token> tokens, int least, int most) throws Fault {
        Token token = tokens.peek();
        if (!token.sign.matches("0|[1-9][0-9]?")) throw new Fault(token.place);
        int n = Integer.parseInt(token.sign);
        if (n < least || n > most) throw new Fault(token.place);
        tokens.poll();
        return n;
    }

    private Standing beginning() {
        Set<Integer> far = new HashSet<>();
        for (int t = 0; t < things.size(); t++) if (things.get(t).bank == 1) far.add(t);
        return new Standing(far, told.getOrDefault("ferry", 0));
    }

    private boolean none(int t) {
        return t < 0 || t >= things.size();
    }

    private int load() {
        return told.getOrDefault("load", 2);
    }

    private Set<Integer> feared(int t) {
        Set<Integer> those = new HashSet<>();
        for (Pair p : pairs) {
            if (p.a == t) those.add(p.b);
            if (p.b == t) those.add(p.a);
        }
        return those;
    }

    private static int bits(Set<Integer> those) {
        int sum = 0;
        for (int t : those) sum += 1 << t;
        return sum;
    }

    private Set<Integer> wrong(Standing s) {
        Set<Integer> those = new HashSet<>();
        for (int t = 0; t < things.size(); t++) {
            int wants = things.get(t).wants;
            if (wants != 2 && wants != s.bank(t)) those.add(t);
        }
        return those;
    }

    private int rentAt(Standing s) {
        return wrong(s).stream().mapToInt(t -> things.get(t).rent).sum();
    }

    private boolean safe(Standing s, int gone) {
        for (Pair p : pairs) {
            if (p.a == gone || p.b == gone) continue;
            if (s.bank(p.a) == s.bank(p.b) && s.bank(p.a) != s.ferry) return false;
        }
        return true;
    }

    int thing(int t, int what) {
        if (none(t) || what < 0 || what > 4) return -1;
        Thing th = things.get(t);
        return new int[] {standing.bank(t), th.wants, th.rent, th.weight, bits(feared(t))}[what];
    }

    int now(int what) {
        if (what < 0 || what > 6) return -1;
        return new int[] {standing.ferry, load(), days, ice, bits(wrong(standing)), rentAt(standing),
            safe(standing, -1) ? 1 : 0}[what];
    }

    // ---- days

    /** null: may not be. */
    private Standing crossed(Standing s, int set, int load, int gone) {
        Set<Integer> far = new HashSet<>(s.far);
        int weight = 0;
        for (int t = 0; t < 31; t++) {
            if ((set >> t & 1) == 0) continue;
            if (t == gone || s.bank(t) != s.ferry) return null;
            weight += things.get(t).weight;
            if (!far.remove(t)) far.add(t);
        }
        Standing next = new Standing(far, 1 - s.ferry);
        return weight <= load && safe(next, gone) ? next : null;
    }

    private void goTo(Standing next, int daysThen) {
        past.add(new Past(standing, days));
        if (past.size() > 10) past.remove(0);
        standing = next;
        days = daysThen;
    }

    int cross(int set) {
        if (set < 0 || set >= 1 << things.size()) return -1;
        Standing next = crossed(standing, set, load(), -1);
        if (next == null || days == 0) return -2;
        goTo(next, days - 1);
        return days;
    }

    int rest() {
        if (days == 0) return -2;
        goTo(standing, days - 1);
        return days;
    }

    int night() {
        lot = (int) (lot * 1103515245L + 12345L);
        long draw = (lot & 0xffffffffL) / 65536 % 10;
        if (draw < told.getOrDefault("frost", 5)) {
            if (ice < 9) ice++;
        } else if (ice > 0) {
            ice--;
        }
        return ice;
    }

    int slide(int t) {
        if (none(t)) return -1;
        Set<Integer> far = new HashSet<>(standing.far);
        if (!far.remove(t)) far.add(t);
        Standing next = new Standing(far, standing.ferry);
        if (things.get(t).weight > ice || !safe(next, -1)) return -2;
        goTo(next, days);
        return standing.bank(t);
    }

    int undo() {
        if (past.isEmpty()) return -2;
        Past latest = past.remove(past.size() - 1);
        standing = latest.standing;
        days = latest.days;
        return past.size();
    }

    int lot(int v) {
        int was = lot;
        lot = v;
        return was;
    }

    // ---- plans

    /** Of all standings that come, how many CROSSINGS at least; by layers. */
    private Map<Standing, Integer> distances(Standing from, int load, int gone) {
        Map<Standing, Integer> all = new HashMap<>();
        all.put(from, 0);
        for (int k = 0; k < 300; k++) {
            for (Standing s : List.copyOf(all.keySet())) {
                if (all.get(s) != k) continue;
                for (int set = 0; set < 1 << things.size(); set++) {
                    Standing next = crossed(s, set, load, gone);
                    if (next != null) all.putIfAbsent(next, k + 1);
                }
            }
        }
        return all;
    }

    private int fewest(int load, int gone) {
        int least = Integer.MAX_VALUE;
        Map<Standing, Integer> all = distances(standing, load, gone);
        for (Standing s : all.keySet()) {
            Set<Integer> those = wrong(s);
            those.remove(gone);
            if (those.isEmpty()) least = Math.min(least, all.get(s));
        }
        return least == Integer.MAX_VALUE ? -9 : least;
    }

    /** The first PLAN of n CROSSINGS to one of the goals, set by set; the goals can be come to by as many. */
    private List<Integer> firstPlan(int n, Set<Standing> goals) {
        List<Set<Standing>> goodWithLeft = new ArrayList<>();
        goodWithLeft.add(goals);
        Set<Standing> every = distances(standing, load(), -1).keySet();
        for (int left = 1; left <= n; left++) {
            Set<Standing> good = new HashSet<>();
            for (Standing s : every) {
                for (int set = 0; set < 1 << things.size(); set++) {
                    Standing next = crossed(s, set, load(), -1);
                    if (next != null && goodWithLeft.get(left - 1).contains(next)) good.add(s);
                }
            }
            goodWithLeft.add(good);
        }
        List<Integer> plan = new ArrayList<>();
        Standing at = standing;
        for (int left = n; left > 0; left--) {
            for (int set = 0; set < 1 << things.size(); set++) {
                Standing next = crossed(at, set, load(), -1);
                if (next != null && goodWithLeft.get(left - 1).contains(next)) {
                    plan.add(set);
                    at = next;
                    break;
                }
            }
        }
        return plan;
    }

    int done(int i) {
        if (i < -1) return -1;
        int n = fewest(load(), -1);
        if (n < 0) return -9;
        if (i == -1) return n;
        if (i >= n) return -5;
        Set<Standing> goals = new HashSet<>();
        for (Standing s : distances(standing, load(), -1).keySet()) if (wrong(s).isEmpty()) goals.add(s);
        return firstPlan(n, goals).get(i);
    }

    int rent(int d, int i) {
        if (d < 0 || d > 20 || i < -1) return -1;
        Map<Standing, Integer> all = distances(standing, load(), -1);
        int least = Integer.MAX_VALUE;
        for (Standing s : all.keySet()) if (all.get(s) <= d) least = Math.min(least, rentAt(s));
        if (i == -1) return least;
        int n = Integer.MAX_VALUE;
        Set<Standing> goals = new HashSet<>();
        for (Standing s : all.keySet()) {
            if (rentAt(s) == least) {
                goals.add(s);
                n = Math.min(n, all.get(s));
            }
        }
        return i >= n ? -5 : firstPlan(n, goals).get(i);
    }

    int least() {
        for (int load = 1; load <= 20; load++) if (fewest(load, -1) >= 0) return load;
        return -9;
    }

    int sooner(int t) {
        if (none(t) || fewest(load(), -1) < 0 || fewest(load(), t) < 0) return -1000000;
        return fewest(load(), -1) - fewest(load(), t);
    }

    int standings() {
        return distances(standing, load(), -1).size();
    }

    // ---- what was seen, what is owed

    int saw(int c, int t, int bank) {
        if (c < 0 || c > 5 || none(t) || bank < 0 || bank > 1) return -1;
        if (seen.size() == 8) return -3;
        seen.add(new Seen(c, t, bank));
        return seen.size();
    }

    int forget() {
        int had = seen.size();
        seen.clear();
        return had;
    }

    long fits(int n, int c) {
        if (n < 0 || n > 5 || c < 0 || c > n) return -1;
        List<Standing> way = new ArrayList<>(List.of(beginning()));
        long[] ways = {0};
        int[] aboard = new int[6];
        tryAll(n, way, new ArrayList<>(), ways, aboard);
        return c == 0 ? ways[0] : aboard[c];
    }

    private void tryAll(int n, List<Standing> way, List<Integer> sets, long[] ways, int[] aboard) {
        if (sets.size() == n) {
            for (Seen s : seen) if (s.c <= n && way.get(s.c).bank(s.t) != s.bank) return;
            ways[0]++;
            for (int k = 0; k < n; k++) aboard[k + 1] |= sets.get(k);
            return;
        }
        for (int set = 0; set < 1 << things.size(); set++) {
            Standing next = crossed(way.get(way.size() - 1), set, load(), -1);
            if (next == null) continue;
            way.add(next);
            sets.add(set);
            tryAll(n, way, sets, ways, aboard);
            way.remove(way.size() - 1);
            sets.remove(sets.size() - 1);
        }
    }

    long owed(int t, int y) {
        if (none(t) || y < 0 || y > 50) return -1;
        if (!wrong(standing).contains(t)) return 0;
        long owes = 0;
        for (int k = 0; k < y; k++) {
            owes = owes + owes / 10;
            owes = owes + things.get(t).rent;
        }
        return owes;
    }

    // ---- kinds, images

    private int ask(int kind, int t) {
        trace += new long[] {1, 10, 100, 1000, 10000, 100000}[kind];
        int up = kind == 0 ? 0 : ask(new int[] {0, 0, 0, 1, 2, 0}[kind], t);
        Thing th = things.get(t);
        return switch (kind) {
            case 0 -> th.rent;
            case 1 -> up + th.weight;
            case 2 -> up - feared(t).size();
            case 3 -> up * 2;
            case 4 -> up + t;
            default -> up + ice;
        };
    }

    int mark(int kind, int t) {
        return kind < 0 || kind > 5 || none(t) ? -1000000 : ask(kind, t);
    }

    int keep(int image) {
        if (image < 0 || image > 1) return -1;
        images.put(image, new Kept(standing, days, ice, lot, List.copyOf(past)));
        return days;
    }

    int back(int image) {
        if (image < 0 || image > 1) return -1;
        Kept kept = images.get(image);
        if (kept == null) return -2;
        standing = kept.standing;
        days = kept.days;
        ice = kept.ice;
        lot = kept.lot;
        past = new ArrayList<>(kept.past);
        return days;
    }

    int count(int what) {
        if (what < 0 || what > 4) return -1;
        return new int[] {things.size(), pairs.size(), seen.size(), past.size(), text.length()}[what];
    }

    long trace() {
        return trace;
    }
}
