import java.util.ArrayList;
import java.util.Arrays;
import java.util.HashSet;
import java.util.List;
import java.util.Random;
import java.util.Set;
import java.util.TreeMap;

/** The document read a second time, in other ways than the class does: slow, with lists, maps and texts. */
final class Oracle {
    record Act(int kind, int x, int y, int z) { }

    record Pair(int first, int second, int mode, int measure, int[] claims, long[] numbers) { }

    final List<List<Act>> routines = new ArrayList<>();
    List<Pair> witness = new ArrayList<>();
    final List<Long> feed = new ArrayList<>();
    List<Long> outs = new ArrayList<>();
    long[] registers = new long[8];
    int done = 0;
    int place = 0;
    int where = -1;
    private final Random order;

    Oracle(long seed) {
        order = new Random(seed);
    }

    private boolean none(int routine) {
        return routine < 0 || routine >= routines.size();
    }

    private static boolean outside(int n, int low, int high) {
        return n < low || n > high;
    }

    private static int end(List<Act> r, int y) {
        return Math.min(y, r.size());
    }

    int routine() {
        if (routines.size() == 40) return -2;
        routines.add(new ArrayList<>());
        return routines.size() - 1;
    }

    private static final String[] NAMES = {"000", "ri0", "rr0", "rrr", "rrr", "rrr", "rrr", "rrr", "rrr", "rrr",
            "rr0", "r00", "0p0", "rp0", "000"};

    int act(int routine, int kind, int x, int y, int z) {
        if (none(routine) || routines.get(routine).size() == 50 || outside(kind, 0, 14)) return -2;
        int[] n = {x, y, z};
        for (int i = 0; i < 3; i++) {
            char name = NAMES[kind].charAt(i);
            int high = name == 'r' ? 7 : name == 'p' ? 50 : 0;
            if (name != 'i' && outside(n[i], 0, high)) return -2;
        }
        routines.get(routine).add(new Act(kind, x, y, z));
        return routines.get(routine).size() - 1;
    }

    int at(int routine, int place, int what) {
        if (none(routine) || outside(place, 0, routines.get(routine).size() - 1) || outside(what, 0, 3)) return -2000000000;
        Act a = routines.get(routine).get(place);
        return new int[] {a.kind, a.x, a.y, a.z}[what];
    }

    int length(int routine) {
        return none(routine) ? -2 : routines.get(routine).size();
    }

    int same(int a, int b) {
        return none(a) || none(b) ? -2 : routines.get(a).equals(routines.get(b)) ? 1 : 0;
    }

    // KNOWN: a map from the places come to to what is known there (null: not known), in whatever order.

    static Long reckon(int kind, Long y, Long z) {
        if (y == null || z == null) return null;
        switch (kind) {
            case 3: return y + z;
            case 4: return y - z;
            case 5: return y * z;
            case 6: return z == 0 ? null : (Long) (y / z);
            case 7: return z == 0 ? null : (Long) (y % z);
            case 8: return y < z ? 1L : 0L;
            default: return y.equals(z) ? 1L : 0L;
        }
    }

    private static Long result(Act a, Long[] ahead) {
        if (a.kind == 1) return (long) a.y;
        if (a.kind == 2) return ahead[a.y];
        if (a.kind >= 3 && a.kind <= 9) return reckon(a.kind, ahead[a.y], ahead[a.z]);
        return null;
    }

    private static List<Integer> ways(List<Act> r, int p, Long[] ahead) {
        Act a = r.get(p);
        switch (a.kind) {
            case 6: case 7: return ahead[a.z] != null && ahead[a.z] == 0 ? List.of() : List.of(p + 1);
            case 10: return ahead[a.y] != null && ahead[a.y] < 0 ? List.of() : List.of(p + 1);
            case 12: return List.of(end(r, a.y));
            case 13:
                if (ahead[a.x] == null) return List.of(p + 1, end(r, a.y));
                return List.of(ahead[a.x] == 0 ? p + 1 : end(r, a.y));
            case 14: return List.of(r.size());
            default: return List.of(p + 1);
        }
    }

    TreeMap<Integer, Long[]> known(List<Act> r) {
        TreeMap<Integer, Long[]> told = new TreeMap<>();
        Long[] zeros = new Long[8];
        Arrays.fill(zeros, 0L);
        told.put(0, zeros);
        boolean changed = true;
        while (changed) {
            changed = false;
            List<Integer> places = new ArrayList<>(told.keySet());
            java.util.Collections.shuffle(places, order);
            for (int p : places) {
                if (p == r.size()) continue;
                Long[] behind = told.get(p).clone();
                Act a = r.get(p);
                if (a.kind >= 1 && a.kind <= 10) behind[a.x] = result(a, told.get(p));
                for (int q : ways(r, p, told.get(p))) {
                    Long[] old = told.get(q);
                    Long[] now = old == null ? behind.clone() : old.clone();
                    for (int i = 0; i < 8; i++) {
                        if (old != null && (old[i] == null || !old[i].equals(behind[i]))) now[i] = null;
                    }
                    if (!Arrays.equals(now, old)) {
                        told.put(q, now);
                        changed = true;
                    }
                }
            }
        }
        return told;
    }

    int known(int routine, int place, int register) {
        if (none(routine) || outside(place, 0, length(routine)) || outside(register, 0, 7)) return -2;
        Long[] told = known(routines.get(routine)).get(place);
        return told == null ? -1 : told[register] == null ? 0 : 1;
    }

    long value(int routine, int place, int register) {
        return known(routine, place, register) == 1 ? known(routines.get(routine)).get(place)[register] : 0;
    }

    // LIVE: a search for a path to an act that asks for the register, over acts that do not make it.

    private static boolean live(List<Act> r, int start, int register) {
        Set<Integer> seen = new HashSet<>();
        List<Integer> todo = new ArrayList<>(List.of(start));
        while (!todo.isEmpty()) {
            int p = todo.remove(todo.size() - 1);
            if (p >= r.size() || !seen.add(p)) continue;
            Act a = r.get(p);
            String names = NAMES[a.kind];
            boolean reads = a.kind >= 2 && a.kind <= 10;
            if (reads && (a.y == register || names.charAt(2) == 'r' && a.z == register)) return true;
            if ((a.kind == 11 || a.kind == 13) && a.x == register) return true;
            if (a.kind >= 1 && a.kind <= 10 && a.x == register) continue;
            if (a.kind == 12 || a.kind == 13) todo.add(a.y);
            if (a.kind != 12 && a.kind != 14) todo.add(p + 1);
        }
        return false;
    }

    int live(int routine, int place, int register) {
        if (none(routine) || outside(place, 0, length(routine)) || outside(register, 0, 7)) return -2;
        return live(routines.get(routine), place, register) ? 1 : 0;
    }

    // PASSES

    private static int[] leads(List<Act> r, int start) {
        Set<Integer> seen = new HashSet<>();
        int p = start;
        while (p < r.size() && (r.get(p).kind == 0 || r.get(p).kind == 12)) {
            if (!seen.add(p)) return new int[] {start, 0};
            p = r.get(p).kind == 0 ? p + 1 : end(r, r.get(p).y);
        }
        return new int[] {p, seen.size()};
    }

    private List<Act> made(List<Act> r, int which) {
        TreeMap<Integer, Long[]> known = which == 0 ? known(r) : null;
        List<Act> to = new ArrayList<>();
        for (int p = 0; p < r.size(); p++) {
            Act a = r.get(p);
            boolean goes = a.kind == 12 || a.kind == 13;
            if (which == 0 && known.containsKey(p)) {
                Long result = a.kind >= 2 && a.kind <= 9 ? result(a, known.get(p)) : null;
                Long asked = a.kind == 13 ? known.get(p)[a.x] : null;
                if (result != null && result >= Integer.MIN_VALUE && result <= Integer.MAX_VALUE) {
                    a = new Act(1, a.x, result.intValue(), 0);
                } else if (asked != null) {
                    a = asked == 0 ? new Act(0, 0, 0, 0) : new Act(12, 0, a.y, 0);
                }
            } else if (which == 1 && List.of(1, 2, 3, 4, 5, 8, 9).contains(a.kind) && !live(r, p + 1, a.x)) {
                a = new Act(0, 0, 0, 0);
            } else if (which == 2 && goes) {
                a = new Act(a.kind, a.x, leads(r, end(r, a.y))[0], 0);
            } else if (which == 3 && goes) {
                a = new Act(a.kind, a.x, becomes(r, a.y), 0);
            }
            if (which != 3 || a.kind != 0) to.add(a);
        }
        return to;
    }

    private static int becomes(List<Act> r, int p) {
        return (int) r.stream().limit(p).filter(a -> a.kind != 0).count();
    }

    private static Pair pairOf(int p, int q, int mode, int measure, int claim) {
        Pair made = new Pair(p, q, mode, measure, new int[8], new long[8]);
        Arrays.fill(made.claims, claim);
        return made;
    }

    private List<Pair> testimony(List<Act> r, int which) {
        List<Pair> row = new ArrayList<>();
        TreeMap<Integer, Long[]> known = which == 0 ? known(r) : null;
        for (int p = 0; p <= r.size(); p++) {
            Pair pair = pairOf(p, p, 0, 0, 1);
            if (which == 0 && !known.containsKey(p)) continue;
            for (int i = 0; i < 8; i++) {
                if (which == 0 && known.get(p)[i] != null) {
                    pair.claims[i] = 2;
                    pair.numbers[i] = known.get(p)[i];
                }
                if (which == 1 && !live(r, p, i)) pair.claims[i] = 0;
            }
            if (which == 3) {
                int run = 0;
                while (p + run < r.size() && r.get(p + run).kind == 0) run++;
                pair = pairOf(p, becomes(r, p), run == 0 ? 0 : 1, run, 1);
            }
            row.add(pair);
        }
        for (int p = 0; which == 2 && p < r.size(); p++) {
            int[] to = leads(r, p);
            if (to[0] != p) row.add(pairOf(p, to[0], 1, to[1], 1));
        }
        return row;
    }

    int pass(int routine, int which) {
        if (none(routine) || outside(which, 0, 3) || routines.size() == 40) return -2;
        witness = testimony(routines.get(routine), which);
        routines.add(made(routines.get(routine), which));
        return routines.size() - 1;
    }

    int best(int routine) {
        if (none(routine) || routines.size() == 40) return -2;
        List<Act> r = routines.get(routine);
        List<Act> start;
        do {
            start = r;
            r = made(made(made(made(r, 0), 1), 2), 3);
        } while (!r.equals(start));
        routines.add(new ArrayList<>(r));
        return routines.size() - 1;
    }

    // RUNS

    int feed(long v) {
        if (feed.size() == 16) return -2;
        feed.add(v);
        return feed.size();
    }

    int dry() {
        int had = feed.size();
        feed.clear();
        return had;
    }

    int run(int routine, int fuel) {
        if (none(routine) || outside(fuel, 0, 100000)) return -2;
        List<Act> r = routines.get(routine);
        registers = new long[8];
        outs = new ArrayList<>();
        place = 0;
        for (done = 0; place < r.size(); ) {
            if (done == fuel) return 3;
            done++;
            Act a = r.get(place);
            int next = place + 1;
            if (a.kind == 1) {
                registers[a.x] = a.y;
            } else if (a.kind == 2) {
                registers[a.x] = registers[a.y];
            } else if (a.kind >= 3 && a.kind <= 9) {
                Long made = reckon(a.kind, registers[a.y], registers[a.z]);
                if (made == null) return 1;
                registers[a.x] = made;
            } else if (a.kind == 10) {
                long i = registers[a.y];
                if (i < 0 || i >= feed.size()) return 2;
                registers[a.x] = feed.get((int) i);
            } else if (a.kind == 11) {
                outs.add(registers[a.x]);
            } else if (a.kind == 12 || a.kind == 13 && registers[a.x] != 0) {
                next = end(r, a.y);
            } else if (a.kind == 14) {
                next = r.size();
            }
            place = next;
        }
        return 0;
    }

    int outs() {
        return outs.size();
    }

    long out(int i) {
        return i < 0 || i >= Math.min(200, outs.size()) ? 0 : outs.get(i);
    }

    int ran(int what) {
        return what == 0 ? done : what == 1 ? place : -2;
    }

    long register(int x) {
        return outside(x, 0, 7) ? 0 : registers[x];
    }

    // WITNESS

    int clear() {
        int had = witness.size();
        witness = new ArrayList<>();
        return had;
    }

    int pair(int first, int second, int mode, int measure) {
        if (outside(first, 0, 50) || outside(second, 0, 50) || outside(mode, 0, 2) || outside(measure, 0, 1000)) return -2;
        if (witness.size() == 200) return -2;
        witness.add(pairOf(first, second, mode, measure, 0));
        return witness.size() - 1;
    }

    int claim(int pair, int register, int claim, long number) {
        if (outside(pair, 0, witness.size() - 1) || outside(register, 0, 7) || outside(claim, 0, 2)) return -2;
        Pair p = witness.get(pair);
        int was = p.claims[register];
        p.claims[register] = claim;
        p.numbers[register] = number;
        return was;
    }

    int of(int pair, int what) {
        if (outside(pair, 0, witness.size() - 1) || outside(what, 0, 11)) return -2;
        Pair p = witness.get(pair);
        return what > 3 ? p.claims[what - 4] : new int[] {p.first, p.second, p.mode, p.measure}[what];
    }

    long number(int pair, int register) {
        if (outside(pair, 0, witness.size() - 1) || outside(register, 0, 7)) return 0;
        Pair p = witness.get(pair);
        return p.claims[register] == 2 ? p.numbers[register] : 0;
    }

    // JUDGING: things are texts; numbers begin with #, what one side alone has bears the side's name.

    private static String[] things(Pair p, String side) {
        String[] things = new String[8];
        for (int i = 0; i < 8; i++) {
            things[i] = p.claims[i] == 2 ? "#" + p.numbers[i] : p.claims[i] == 1 ? "both" + i : side + i;
        }
        return things;
    }

    private static Long numeral(String thing) {
        return thing.startsWith("#") ? Long.valueOf(thing.substring(1)) : null;
    }

    private static boolean quiet(List<Act> r, int p, String[] t) {
        if (p == r.size()) return false;
        Act a = r.get(p);
        if (a.kind == 6 || a.kind == 7) return numeral(t[a.z]) != null && numeral(t[a.z]) != 0;
        if (a.kind == 13) return numeral(t[a.x]) != null;
        return List.of(0, 1, 2, 3, 4, 5, 8, 9, 12, 14).contains(a.kind);
    }

    private static String[] behind(Act a, String[] t) {
        String[] b = t.clone();
        if (a.kind == 1) b[a.x] = "#" + a.y;
        if (a.kind == 2) b[a.x] = t[a.y];
        if (a.kind >= 3 && a.kind <= 9) {
            Long n = reckon(a.kind, numeral(t[a.y]), numeral(t[a.z]));
            b[a.x] = n != null ? "#" + n : "made " + a.kind + " " + t[a.y] + " " + t[a.z];
        }
        if (a.kind == 10) b[a.x] = "read " + t[a.y];
        return b;
    }

    private static int quietNext(List<Act> r, int p, String[] t) {
        Act a = r.get(p);
        if (a.kind == 12 || a.kind == 13 && numeral(t[a.x]) != 0) return end(r, a.y);
        return a.kind == 14 ? r.size() : p + 1;
    }

    private Pair search(List<Act> a, List<Act> b, int p, int q) {
        for (Pair pair : witness) {
            if (end(a, pair.first) == p && end(b, pair.second) == q) return pair;
        }
        return null;
    }

    private static int follow(Pair to, String[] t, String[] u, int below) {
        if (to == null) return 5;
        if (to.measure >= below) return 6;
        for (int i = 0; i < 8; i++) {
            if (to.claims[i] == 1 && !t[i].equals(u[i])) return 7;
            String want = "#" + to.numbers[i];
            if (to.claims[i] == 2 && !(t[i].equals(want) && u[i].equals(want))) return 7;
        }
        return 0;
    }

    private int fault(List<Act> a, List<Act> b, Pair pair) {
        int p = end(a, pair.first);
        int q = end(b, pair.second);
        String[] t = things(pair, "first");
        String[] u = things(pair, "second");
        if (pair.mode == 1) {
            if (!quiet(a, p, t)) return 3;
            return follow(search(a, b, quietNext(a, p, t), q), behind(a.get(p), t), u, pair.measure);
        }
        if (pair.mode == 2) {
            if (!quiet(b, q, u)) return 3;
            return follow(search(a, b, p, quietNext(b, q, u)), t, behind(b.get(q), u), pair.measure);
        }
        if (p == a.size() && q == b.size()) return 0;
        if (p == a.size() || q == b.size()) return 3;
        Act f = a.get(p);
        Act g = b.get(q);
        int any = Integer.MAX_VALUE;
        if (quiet(a, p, t) && quiet(b, q, u)) {
            return follow(search(a, b, quietNext(a, p, t), quietNext(b, q, u)), behind(f, t), behind(g, u), any);
        }
        if (f.kind != g.kind) return 3;
        switch (f.kind) {
            case 11: case 13:
                if (!t[f.x].equals(u[g.x])) return 4;
                break;
            case 6: case 7:
                if (!t[f.y].equals(u[g.y]) || !t[f.z].equals(u[g.z])) return 4;
                if (t[f.z].equals("#0")) return 0;
                break;
            case 10:
                if (!t[f.y].equals(u[g.y])) return 4;
                if (t[f.y].startsWith("#-")) return 0;
                break;
            default:
                return 3;
        }
        int next = follow(search(a, b, p + 1, q + 1), behind(f, t), behind(g, u), any);
        if (next != 0 || f.kind != 13) return next;
        return follow(search(a, b, end(a, f.y), end(b, g.y)), t, u, any);
    }

    int judge(int a, int b) {
        where = -1;
        if (none(a) || none(b)) return -2;
        List<Act> first = routines.get(a);
        List<Act> second = routines.get(b);
        Pair start = search(first, second, 0, 0);
        if (start == null) {
            where = 0;
            return 1;
        }
        for (int i = 0; i < 8; i++) {
            if (start.claims[i] == 2 && start.numbers[i] != 0) {
                where = witness.indexOf(start);
                return 2;
            }
        }
        for (int i = 0; i < witness.size(); i++) {
            int fault = fault(first, second, witness.get(i));
            if (fault != 0) {
                where = i;
                return fault;
            }
        }
        return 0;
    }

    int where() {
        return where;
    }

    int count(int what) {
        return what == 0 ? routines.size() : what == 1 ? witness.size() : what == 2 ? feed.size() : -2;
    }
}
