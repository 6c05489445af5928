import java.util.ArrayDeque;
import java.util.ArrayList;
import java.util.Collection;
import java.util.Comparator;
import java.util.Deque;
import java.util.HashSet;
import java.util.List;
import java.util.Map;
import java.util.Set;
import java.util.TreeMap;
import java.util.TreeSet;
import java.util.function.BooleanSupplier;
import java.util.function.IntSupplier;
import java.util.regex.Matcher;
import java.util.regex.Pattern;

/**
 * The document once more, word by word, with sets and lists, slow and plain: what RandomRunsTest holds
 * the class against. It shares no code with it.
 */
public final class PlainRelays {
    private static final class Refused extends RuntimeException {
        private static final long serialVersionUID = 1L;
        final int status;

        Refused(int status) {
            super(null, null, false, false);
            this.status = status;
        }
    }

    private static final class Topo {
        Set<Integer> set;
        int number;
        int left;

        Topo(Collection<Integer> set, int number, int left) {
            this.set = new TreeSet<>(set);
            this.number = number;
            this.left = left;
        }
    }

    private static final class Node {
        boolean on = true;
        int will;
        Set<Integer> hears = new TreeSet<>();
        Map<Integer, Integer> jam = new TreeMap<>();
        Map<Integer, Integer> quality = new TreeMap<>();
        Set<Integer> up = new TreeSet<>();
        Map<Integer, Set<Integer>> known = new TreeMap<>();
        Set<Integer> near = new TreeSet<>();
        Set<Integer> choosers = new TreeSet<>();
        Set<Integer> relays = new TreeSet<>();
        int number;
        Set<Integer> lastTold = new TreeSet<>();
        Map<Integer, Topo> topo = new TreeMap<>();

        Node(int will) {
            this.will = will;
        }

        Node copy() {
            Node n = new Node(will);
            n.on = on;
            n.hears.addAll(hears);
            n.jam.putAll(jam);
            n.quality.putAll(quality);
            n.up.addAll(up);
            for (Map.Entry<Integer, Set<Integer>> e : known.entrySet()) {
                n.known.put(e.getKey(), new TreeSet<>(e.getValue()));
            }
            n.near.addAll(near);
            n.choosers.addAll(choosers);
            n.relays.addAll(relays);
            n.number = number;
            n.lastTold.addAll(lastTold);
            for (Map.Entry<Integer, Topo> e : topo.entrySet()) {
                n.topo.put(e.getKey(), new Topo(e.getValue().set, e.getValue().number, e.getValue().left));
            }
            return n;
        }
    }

    private static final class World {
        List<Node> nodes = new ArrayList<>();
        int tick;
        int every = 2;
        int hold = 6;
        int rise = 700;
        int fall = 300;
        List<int[]> notices = new ArrayList<>();
        int old;

        World copy() {
            World w = new World();
            for (Node n : nodes) {
                w.nodes.add(n.copy());
            }
            w.tick = tick;
            w.every = every;
            w.hold = hold;
            w.rise = rise;
            w.fall = fall;
            w.notices.addAll(notices);
            w.old = old;
            return w;
        }
    }

    private static final class Draws {
        long s;
        int loss;
        int lost;

        Draws(int seed, int loss) {
            s = seed;
            this.loss = loss;
        }

        boolean lost() {
            s = (s * 4561L + 51349L) % 243000L;
            if (s * 16 / 243000 < loss) {
                lost++;
                return true;
            }
            return false;
        }
    }

    private World world = new World();
    private final Deque<World> marks = new ArrayDeque<>();
    private final List<Integer> tape = new ArrayList<>();
    private int status;
    private int faultKind = -1;
    private int faultPlace = -1;

    public PlainRelays() {
    }

    // ---- statuses

    private int answer(IntSupplier call) {
        try {
            status = 0;
            return call.getAsInt();
        } catch (Refused e) {
            status = e.status;
            return -1;
        }
    }

    private boolean does(BooleanSupplier call) {
        try {
            status = 0;
            return call.getAsBoolean();
        } catch (Refused e) {
            status = e.status;
            return false;
        }
    }

    private static void refuse(int status, boolean holds) {
        if (holds) {
            throw new Refused(status);
        }
    }

    private static void among(int number, int from, int to) {
        refuse(1, number < from || number > to);
    }

    private Node nodeAt(int node) {
        refuse(2, node < 0 || node >= world.nodes.size());
        return world.nodes.get(node);
    }

    private void two(int node, int other) {
        nodeAt(node);
        nodeAt(other);
        refuse(3, node == other);
    }

    private void realSet(int set) {
        refuse(1, set < 0);
        for (int i = world.nodes.size(); i < 31; i++) {
            refuse(1, (set & 1 << i) != 0);
        }
    }

    private static int bits(Collection<Integer> set) {
        int bits = 0;
        for (int i : set) {
            bits += 1 << i;
        }
        return bits;
    }

    private static Set<Integer> ofBits(int bits) {
        Set<Integer> set = new TreeSet<>();
        for (int i = 0; i < 31; i++) {
            if ((bits & 1 << i) != 0) {
                set.add(i);
            }
        }
        return set;
    }

    private static <T> Set<T> minus(Set<T> a, Set<T> b) {
        Set<T> c = new TreeSet<>(a);
        c.removeAll(b);
        return c;
    }

    // ---- text

    public int status() {
        return status;
    }

    public int feed(int a, int b, int c, int d, int e) {
        if (tape.size() + 20 > 400) {
            return -1;
        }
        for (int word : new int[] {a, b, c, d, e}) {
            tape.add(word >>> 24);
            tape.add(word >>> 16 & 255);
            tape.add(word >>> 8 & 255);
            tape.add(word & 255);
        }
        return tape.size();
    }

    private static final class Fault extends RuntimeException {
        private static final long serialVersionUID = 1L;
        final int kind;
        final int place;

        Fault(int kind, int place) {
            super(null, null, false, false);
            this.kind = kind;
            this.place = place;
        }
    }

    private static final Pattern TOKEN = Pattern.compile("[a-z]+|[0-9]+|;");

    public int load(int n) {
        return answer(() -> {
            among(n, 0, tape.size());
            StringBuilder text = new StringBuilder();
            for (int i = 0; i < n; i++) {
                text.append((char) (int) tape.get(i));
            }
            tape.clear();
            try {
                World next = read(text.toString());
                faultKind = 0;
                faultPlace = -1;
                world = next;
            } catch (Fault f) {
                faultKind = f.kind;
                faultPlace = f.place;
                throw new Refused(9);
            }
            return world.nodes.size();
        });
    }

    private static World read(String text) {
        World w = new World();
        Matcher m = TOKEN.matcher(text);
        Set<String> once = new HashSet<>();
        int[] at = {0};
        while (true) {
            String word = token(text, m, at);
            int place = at[0] - word.length();
            if (word.isEmpty()) {
                return w;
            }
            int count;
            switch (word) {
                case "nodes": case "off": case "every": case "hold": count = 1; break;
                case "will": case "air": case "ear": count = 2; break;
                case "jam": count = 3; break;
                default: throw new Fault(2, place);
            }
            if ((word.equals("every") || word.equals("hold")) && !once.add(word)) {
                throw new Fault(5, place);
            }
            int[] number = new int[count];
            for (int i = 0; i < count; i++) {
                String digits = token(text, m, at);
                int where = at[0] - digits.length();
                if (digits.isEmpty() || !Character.isDigit(digits.charAt(0))) {
                    throw new Fault(2, where);
                }
                number[i] = Integer.parseInt(digits);
                checkNumber(w, word, number, i, where);
            }
            String sign = token(text, m, at);
            if (!sign.equals(";")) {
                throw new Fault(2, at[0] - sign.length());
            }
            apply(w, word, number);
        }
    }

    private static String token(String text, Matcher m, int[] at) {
        while (at[0] < text.length() && " \n".indexOf(text.charAt(at[0])) >= 0) {
            at[0]++;
        }
        if (at[0] == text.length()) {
            return "";
        }
        m.region(at[0], text.length());
        if (!m.lookingAt()) {
            throw new Fault(1, at[0]);
        }
        if (Character.isDigit(m.group().charAt(0)) && m.group().length() > 3) {
            throw new Fault(1, at[0]);
        }
        at[0] = m.end();
        return m.group();
    }

    private static void checkNumber(World w, String word, int[] number, int i, int where) {
        int v = number[i];
        boolean isNode = word.equals("off") || word.equals("will") && i == 0
            || (word.equals("air") || word.equals("ear") || word.equals("jam")) && i < 2;
        if (isNode) {
            if (v >= w.nodes.size()) {
                throw new Fault(3, where);
            }
            if (i == 1 && v == number[0]) {
                throw new Fault(4, where);
            }
            if (word.equals("off") && !w.nodes.get(v).on) {
                throw new Fault(5, where);
            }
            return;
        }
        int from = word.equals("will") ? 0 : 1;
        int to = word.equals("nodes") ? 8 : word.equals("will") ? 7 : word.equals("every") ? 9 : 99;
        if (v < from || v > to) {
            throw new Fault(4, where);
        }
        if (word.equals("nodes") && v + w.nodes.size() > 8) {
            throw new Fault(6, where);
        }
    }

    private static void apply(World w, String word, int[] number) {
        switch (word) {
            case "nodes":
                for (int i = 0; i < number[0]; i++) {
                    w.nodes.add(new Node(3));
                }
                break;
            case "off": w.nodes.get(number[0]).on = false; break;
            case "every": w.every = number[0]; break;
            case "hold": w.hold = number[0]; break;
            case "will": w.nodes.get(number[0]).will = number[1]; break;
            case "jam": w.nodes.get(number[1]).jam.put(number[0], number[2]); break;
            case "air":
                w.nodes.get(number[0]).hears.add(number[1]);
                w.nodes.get(number[1]).hears.add(number[0]);
                break;
            default: w.nodes.get(number[1]).hears.add(number[0]);
        }
    }

    public int fault(int what) {
        return what == 0 ? faultKind : what == 1 ? faultPlace : -1;
    }

    // ---- what there is

    private static Set<Integer> on(World w) {
        Set<Integer> on = new TreeSet<>();
        for (int i = 0; i < w.nodes.size(); i++) {
            if (w.nodes.get(i).on) {
                on.add(i);
            }
        }
        return on;
    }

    public int many(int what) {
        return answer(() -> {
            among(what, 0, 10);
            int sent = 0;
            for (int[] notice : world.notices) {
                sent += notice[3];
            }
            int[] all = {world.nodes.size(), bits(on(world)), world.tick, world.every, world.hold, world.notices.size(),
                sent, world.old, marks.size(), world.rise, world.fall};
            return all[what];
        });
    }

    /** How many there are, without a STATUS. */
    int nodes() {
        return world.nodes.size();
    }

    public int node(int node, int what) {
        return answer(() -> {
            among(what, 0, 9);
            Node n = nodeAt(node);
            int[] all = {n.on ? 1 : 0, n.will, n.number, bits(n.up), bits(n.near), bits(behind(world, node)),
                bits(n.relays), bits(n.choosers), bits(n.lastTold), bits(n.hears)};
            return all[what];
        });
    }

    public int link(int node, int other, int what) {
        return answer(() -> {
            among(what, 0, 5);
            two(node, other);
            Node n = world.nodes.get(node);
            int[] all = {n.quality.getOrDefault(other, 0), n.up.contains(other) ? 1 : 0, n.near.contains(other) ? 1 : 0,
                bits(n.known.getOrDefault(other, Set.of())), n.choosers.contains(other) ? 1 : 0,
                n.jam.getOrDefault(other, 0)};
            return all[what];
        });
    }

    public int topology(int node, int other, int what) {
        return answer(() -> {
            among(what, 0, 2);
            two(node, other);
            Topo t = world.nodes.get(node).topo.get(other);
            refuse(7, t == null);
            int[] all = {bits(t.set), t.number, t.left};
            return all[what];
        });
    }

    // ---- relays

    private static Set<Integer> willing(World w, int node) {
        Set<Integer> found = new TreeSet<>(w.nodes.get(node).near);
        found.removeIf(i -> w.nodes.get(i).will == 0);
        return found;
    }

    private static Set<Integer> knownOfAny(World w, int node, Collection<Integer> some) {
        Set<Integer> known = new TreeSet<>();
        for (int i : some) {
            known.addAll(w.nodes.get(node).known.getOrDefault(i, Set.of()));
        }
        return known;
    }

    private static Set<Integer> behind(World w, int node) {
        Set<Integer> behind = knownOfAny(w, node, willing(w, node));
        behind.remove(node);
        behind.removeAll(w.nodes.get(node).near);
        return behind;
    }

    private static Set<Integer> indispensable(World w, int node, Set<Integer> of) {
        Set<Integer> found = new TreeSet<>();
        for (int b : behind(w, node)) {
            List<Integer> by = new ArrayList<>();
            for (int i : of) {
                if (w.nodes.get(node).known.getOrDefault(i, Set.of()).contains(b)) {
                    by.add(i);
                }
            }
            if (by.size() == 1) {
                found.add(by.get(0));
            }
        }
        return found;
    }

    private static Set<Integer> choose(World w, int node, List<Integer> picks) {
        Set<Integer> willing = willing(w, node);
        Set<Integer> behind = behind(w, node);
        Set<Integer> relays = new TreeSet<>(willing);
        relays.removeIf(i -> w.nodes.get(i).will != 7);
        relays.addAll(indispensable(w, node, willing));
        Map<Integer, Set<Integer>> known = w.nodes.get(node).known;
        while (true) {
            Set<Integer> open = minus(behind, knownOfAny(w, node, relays));
            if (open.isEmpty()) {
                break;
            }
            List<Integer> others = new ArrayList<>(minus(willing, relays));
            others.removeIf(i -> minus(open, known.get(i)).size() == open.size());
            others.sort(Comparator.comparingInt((Integer i) -> -w.nodes.get(i).will)
                .thenComparingInt(i -> minus(open, known.get(i)).size())
                .thenComparingInt(i -> -known.get(i).size())
                .thenComparingInt(i -> i));
            picks.add(others.get(0));
            relays.add(others.get(0));
        }
        List<Integer> order = new ArrayList<>(relays);
        order.removeIf(i -> w.nodes.get(i).will == 7);
        order.sort(Comparator.comparingInt((Integer i) -> w.nodes.get(i).will).thenComparingInt(i -> -i));
        for (int i : order) {
            Set<Integer> rest = minus(relays, Set.of(i));
            if (knownOfAny(w, node, rest).containsAll(behind)) {
                relays = rest;
            }
        }
        return relays;
    }

    private static int leastOf(World w, int node) {
        int best = -1;
        for (int set = 0; set < 256; set++) {
            boolean ok = willing(w, node).containsAll(ofBits(set))
                && knownOfAny(w, node, minus(ofBits(set), minus(ofBits(set), willing(w, node)))).containsAll(behind(w, node));
            if (ok && (best < 0 || Integer.bitCount(set) < Integer.bitCount(best))) {
                best = set;
            }
        }
        return best;
    }

    public int would(int node) {
        return answer(() -> {
            nodeAt(node);
            return bits(choose(world, node, new ArrayList<>()));
        });
    }

    public int pick(int node, int i) {
        return answer(() -> {
            refuse(1, i < 0);
            nodeAt(node);
            List<Integer> picks = new ArrayList<>();
            choose(world, node, picks);
            refuse(7, i >= picks.size());
            return picks.get(i);
        });
    }

    public int bestWill(int node) {
        return answer(() -> {
            nodeAt(node);
            World w = world.copy();
            int best = -1;
            int fewest = 1000;
            for (int will = 0; will <= 7; will++) {
                w.nodes.get(node).will = will;
                int sum = 0;
                for (int i : on(w)) {
                    sum += choose(w, i, new ArrayList<>()).size();
                }
                if (sum < fewest) {
                    fewest = sum;
                    best = will;
                }
            }
            return best;
        });
    }

    public int least(int node) {
        return answer(() -> {
            nodeAt(node);
            return leastOf(world, node);
        });
    }

    public int covers(int node, int set) {
        return answer(() -> {
            realSet(set);
            Node n = nodeAt(node);
            Set<Integer> some = ofBits(set);
            some.retainAll(n.near);
            Set<Integer> covered = knownOfAny(world, node, some);
            covered.retainAll(behind(world, node));
            return bits(covered);
        });
    }

    public int needed(int node) {
        return answer(() -> bits(indispensable(world, node, nodeAt(node).relays)));
    }

    public int waste() {
        return answer(() -> {
            int more = 0;
            for (int i : on(world)) {
                more += world.nodes.get(i).relays.size() - Integer.bitCount(leastOf(world, i));
            }
            return more;
        });
    }

    // ---- routes

    /** Of each node with a route: steps and NEXT. */
    private static Map<Integer, int[]> routes(World w, int node) {
        Node n = w.nodes.get(node);
        Map<Integer, int[]> routes = new TreeMap<>();
        for (int i : n.near) {
            routes.put(i, new int[] {1, i});
        }
        for (int i = 0; i < w.nodes.size(); i++) {
            for (int by : n.near) {
                if (i != node && !routes.containsKey(i) && n.known.get(by).contains(i)) {
                    routes.put(i, new int[] {2, by});
                }
            }
        }
        for (int steps = 2; steps <= 8; steps++) {
            Map<Integer, int[]> more = new TreeMap<>();
            for (Map.Entry<Integer, Topo> e : n.topo.entrySet()) {
                int[] to = routes.get(e.getKey());
                if (to == null || to[0] != steps - 1) {
                    continue;
                }
                for (int i : e.getValue().set) {
                    if (i != node && !routes.containsKey(i) && (!more.containsKey(i) || more.get(i)[1] > to[1])) {
                        more.put(i, new int[] {steps, to[1]});
                    }
                }
            }
            routes.putAll(more);
        }
        return routes;
    }

    public int route(int node, int other, int what) {
        return answer(() -> {
            among(what, 0, 1);
            two(node, other);
            int[] route = routes(world, node).get(other);
            refuse(7, route == null);
            return route[what];
        });
    }

    public int table(int node) {
        return answer(() -> {
            nodeAt(node);
            return bits(routes(world, node).keySet());
        });
    }

    /** The nodes of GOING; behind them -1 there, -2 LOST, -3 ROUND. */
    private static List<Integer> go(World w, int from, int to) {
        List<Integer> way = new ArrayList<>();
        way.add(from);
        while (true) {
            int here = way.get(way.size() - 1);
            if (here == to) {
                way.add(-1);
                return way;
            }
            if (way.indexOf(here) < way.size() - 1) {
                way.add(-3);
                return way;
            }
            int[] route = routes(w, here).get(to);
            if (route == null || !w.nodes.get(route[1]).on || !w.nodes.get(route[1]).hears.contains(here)) {
                way.add(-2);
                return way;
            }
            way.add(route[1]);
        }
    }

    private List<Integer> going(int from, int to) {
        two(from, to);
        refuse(4, !world.nodes.get(from).on);
        return go(world, from, to);
    }

    public int goes(int from, int to, int what) {
        return answer(() -> {
            among(what, 0, 2);
            List<Integer> way = going(from, to);
            int steps = way.size() - 2;
            return what == 0 ? -1 - way.get(steps + 1) : what == 1 ? steps : way.get(steps);
        });
    }

    private static boolean pair(World w, int a, int b) {
        Node m = w.nodes.get(a);
        Node n = w.nodes.get(b);
        return a != b && m.on && n.on && m.hears.contains(b) && n.hears.contains(a);
    }

    /** The fewest steps by pairs among some; 99: none. */
    private static int[][] steps(World w, Set<Integer> among) {
        int count = w.nodes.size();
        int[][] d = new int[count][count];
        for (int a = 0; a < count; a++) {
            for (int b = 0; b < count; b++) {
                boolean both = among.contains(a) && among.contains(b);
                d[a][b] = both && a == b ? 0 : both && pair(w, a, b) ? 1 : 99;
            }
        }
        for (int c = 0; c < count; c++) {
            for (int a = 0; a < count; a++) {
                for (int b = 0; b < count; b++) {
                    d[a][b] = Math.min(d[a][b], d[a][c] + d[c][b]);
                }
            }
        }
        return d;
    }

    private static int truth(World w, int from, int to) {
        return steps(w, on(w))[from][to];
    }

    public int far(int from, int to) {
        return answer(() -> {
            two(from, to);
            refuse(4, !world.nodes.get(from).on || !world.nodes.get(to).on);
            int steps = truth(world, from, to);
            refuse(7, steps >= 99);
            return steps;
        });
    }

    private static int wrongOf(World w, int node, int what) {
        Set<Integer> found = new TreeSet<>();
        Map<Integer, int[]> routes = routes(w, node);
        for (int i = 0; i < w.nodes.size(); i++) {
            if (i == node) {
                continue;
            }
            int steps = truth(w, node, i);
            boolean way = steps < 99;
            int[] route = routes.get(i);
            if (what == 0 ? way && route == null
                : what == 1 ? way && route != null && route[0] > steps
                : route != null && (!way || route[0] < steps)) {
                found.add(i);
            }
        }
        return bits(found);
    }

    public int wrong(int node, int what) {
        return answer(() -> {
            among(what, 0, 2);
            refuse(4, !nodeAt(node).on);
            return wrongOf(world, node, what);
        });
    }

    private static boolean isTold(World w) {
        int[][] truth = steps(w, on(w));
        for (int i : on(w)) {
            Map<Integer, int[]> routes = routes(w, i);
            for (int j = 0; j < w.nodes.size(); j++) {
                int steps = routes.containsKey(j) ? routes.get(j)[0] : 99;
                if (i != j && steps != Math.min(99, truth[i][j])) {
                    return false;
                }
            }
        }
        return true;
    }

    private static int till(World paper) {
        for (int i = 0; i <= 120; i++) {
            if (isTold(paper)) {
                return i;
            }
            tickOn(paper, null);
        }
        throw new Refused(8);
    }

    public int told() {
        return answer(() -> isTold(world) ? 1 : 0);
    }

    public int settles() {
        return answer(() -> till(world.copy()));
    }

    public int path(int from, int to, int i) {
        return answer(() -> {
            refuse(1, i < 0);
            List<Integer> way = going(from, to);
            refuse(7, i > way.size() - 2);
            return way.get(i);
        });
    }

    public int busy(int node) {
        return answer(() -> {
            nodeAt(node);
            int found = 0;
            for (int from : on(world)) {
                for (int to : on(world)) {
                    if (from != to && from != node && to != node) {
                        List<Integer> way = go(world, from, to);
                        if (way.get(way.size() - 1) == -1 && way.contains(node)) {
                            found++;
                        }
                    }
                }
            }
            return found;
        });
    }

    public int sure(int from, int to) {
        return answer(() -> {
            List<Integer> way = going(from, to);
            refuse(8, way.get(way.size() - 1) != -1);
            long millionths = 1000000;
            for (int i = 0; i + 2 < way.size(); i++) {
                Node into = world.nodes.get(way.get(i + 1));
                millionths = millionths * into.quality.getOrDefault(way.get(i), 0) / 999;
            }
            return (int) millionths;
        });
    }

    public int astray(int what) {
        return answer(() -> {
            among(what, 0, 2);
            int found = 0;
            for (int from : on(world)) {
                for (int to : on(world)) {
                    if (from == to) {
                        continue;
                    }
                    List<Integer> way = go(world, from, to);
                    int end = way.get(way.size() - 1);
                    int steps = way.size() - 2;
                    int truth = truth(world, from, to);
                    if (what == 0 && end == -2 || what == 1 && end == -3
                        || what == 2 && end == -1 && (truth >= 99 || steps > truth)) {
                        found++;
                    }
                }
            }
            return found;
        });
    }

    private static int grown(int quality, boolean heard) {
        return heard ? quality + (int) Math.ceil((999 - quality) / 2.0) : (int) Math.floor(quality / 2.0);
    }

    private static boolean upThen(World w, int quality, boolean was) {
        return quality >= w.rise ? true : quality < w.fall ? false : was;
    }

    public int proves(int node, int other, int heard, int n, int what) {
        return answer(() -> {
            among(n, 1, 30);
            among(what, 0, 2);
            two(node, other);
            List<Boolean> ups = new ArrayList<>();
            ups.add(world.nodes.get(node).up.contains(other));
            int quality = world.nodes.get(node).quality.getOrDefault(other, 0);
            for (int i = 0; i < n; i++) {
                quality = grown(quality, (heard & 1 << i) != 0);
                ups.add(upThen(world, quality, ups.get(i)));
            }
            int turns = 0;
            for (int i = 0; i < n; i++) {
                turns += ups.get(i).equals(ups.get(i + 1)) ? 0 : 1;
            }
            return what == 0 ? quality : what == 1 ? (ups.get(n) ? 1 : 0) : turns;
        });
    }

    private static boolean isBack(World w, Set<Integer> set) {
        if (!on(w).containsAll(set)) {
            return false;
        }
        for (int i : on(w)) {
            if (!set.contains(i) && set.stream().noneMatch(j -> pair(w, i, j))) {
                return false;
            }
        }
        int[][] within = steps(w, set);
        for (int a : set) {
            for (int b : set) {
                if (within[a][b] >= 99) {
                    return false;
                }
            }
        }
        return true;
    }

    public int spine(int what) {
        return answer(() -> {
            among(what, 0, 2);
            Set<Integer> spine = new TreeSet<>();
            for (int i : on(world)) {
                spine.addAll(world.nodes.get(i).relays);
            }
            spine.retainAll(on(world));
            if (what < 2) {
                return what == 0 ? bits(spine) : isBack(world, spine) ? 1 : 0;
            }
            int best = -1;
            for (int set = 0; set < 1 << world.nodes.size(); set++) {
                if (isBack(world, ofBits(set)) && (best < 0 || Integer.bitCount(set) < Integer.bitCount(best))) {
                    best = set;
                }
            }
            return Math.max(best, 0);
        });
    }

    public int cuts() {
        return answer(() -> {
            Set<Integer> cuts = new TreeSet<>();
            int[][] all = steps(world, on(world));
            for (int c : on(world)) {
                int[][] rest = steps(world, minus(on(world), Set.of(c)));
                for (int a : on(world)) {
                    for (int b : on(world)) {
                        if (a != b && a != c && b != c && all[a][b] < 99 && rest[a][b] >= 99) {
                            cuts.add(c);
                        }
                    }
                }
            }
            return bits(cuts);
        });
    }

    public int mends(int node) {
        return answer(() -> {
            nodeAt(node);
            World paper = world.copy();
            paper.nodes.get(node).on = !paper.nodes.get(node).on;
            return till(paper);
        });
    }

    // ---- floods

    private static boolean getsThrough(World w, int to, int from) {
        Node n = w.nodes.get(to);
        return n.on && w.nodes.get(from).on && n.hears.contains(from) && n.jam.getOrDefault(from, 0) == 0;
    }

    private interface Taker {
        void takes(int node);
    }

    /** Who gets it, and behind them how often it is sent. */
    private static int[] floodFrom(World w, int source, boolean blind, Draws draws, Taker taker) {
        List<Integer> row = new ArrayList<>();
        Set<Integer> got = new TreeSet<>();
        row.add(source);
        for (int next = 0; next < row.size(); next++) {
            int sender = row.get(next);
            for (int i = 0; i < w.nodes.size(); i++) {
                if (i == sender || !getsThrough(w, i, sender) || !w.nodes.get(i).near.contains(sender)) {
                    continue;
                }
                if (draws != null && draws.lost()) {
                    continue;
                }
                if (i != source && got.add(i)) {
                    taker.takes(i);
                }
                if ((blind || w.nodes.get(i).choosers.contains(sender)) && !row.contains(i)) {
                    row.add(i);
                }
            }
        }
        return new int[] {bits(got), row.size()};
    }

    public int flood(int node, int what) {
        return answer(() -> {
            among(what, 0, 3);
            refuse(4, !nodeAt(node).on);
            return floodFrom(world, node, what >= 2, null, i -> { })[what % 2];
        });
    }

    public int notice(int i, int what) {
        return answer(() -> {
            among(i, 0, 15);
            among(what, 0, 3);
            refuse(7, i >= world.notices.size());
            return world.notices.get(world.notices.size() - 1 - i)[what];
        });
    }

    private static boolean isOlder(int a, int b) {
        for (int ahead = 1; ahead <= 7; ahead++) {
            if ((a + ahead) % 16 == b) {
                return true;
            }
        }
        return false;
    }

    public int older(int a, int b) {
        return answer(() -> {
            among(a, 0, 15);
            among(b, 0, 15);
            return isOlder(a, b) ? 1 : 0;
        });
    }

    private static boolean takesIn(World w, int node, int other, int number, Collection<Integer> set) {
        Topo has = w.nodes.get(node).topo.get(other);
        if (has != null && isOlder(number, has.number)) {
            w.old++;
            return false;
        }
        w.nodes.get(node).topo.put(other, new Topo(set, number, w.hold));
        return true;
    }

    public int echo(int node, int other, int number, int set) {
        return answer(() -> {
            among(number, 0, 15);
            realSet(set);
            two(node, other);
            refuse(4, !world.nodes.get(node).on);
            return takesIn(world, node, other, number, ofBits(set)) ? 1 : 0;
        });
    }

    // ---- what is done

    private static final class Hello {
        final Set<Integer> up;
        final Set<Integer> near;
        final Set<Integer> relays;

        Hello(Node n) {
            up = new TreeSet<>(n.up);
            near = new TreeSet<>(n.near);
            relays = new TreeSet<>(n.relays);
        }
    }

    private static void tickOn(World w, Draws draws) {
        w.tick++;
        List<Hello> hellos = new ArrayList<>();
        for (Node n : w.nodes) {
            hellos.add(new Hello(n));
        }
        for (int i : on(w)) {
            Node n = w.nodes.get(i);
            for (int j = 0; j < w.nodes.size(); j++) {
                if (i == j) {
                    continue;
                }
                boolean heard = getsThrough(w, i, j) && (draws == null || !draws.lost());
                int quality = grown(n.quality.getOrDefault(j, 0), heard);
                n.quality.put(j, quality);
                boolean up = upThen(w, quality, n.up.contains(j));
                put(n.up, j, up);
                Hello hello = hellos.get(j);
                if (heard) {
                    put(n.near, j, up && hello.up.contains(i));
                    n.known.put(j, hello.near);
                    put(n.choosers, j, hello.relays.contains(i));
                } else if (!up) {
                    n.near.remove(j);
                }
                if (!n.near.contains(j)) {
                    n.known.remove(j);
                    n.choosers.remove(j);
                }
            }
        }
        for (int i : on(w)) {
            w.nodes.get(i).relays = choose(w, i, new ArrayList<>());
        }
        for (int i : on(w)) {
            w.nodes.get(i).topo.values().forEach(t -> t.left--);
            w.nodes.get(i).topo.values().removeIf(t -> t.left == 0);
        }
        if (w.tick % w.every == 0) {
            for (int i : on(w)) {
                sendNotice(w, i, draws);
            }
        }
        for (Node n : w.nodes) {
            n.jam.replaceAll((from, left) -> Math.max(0, left - 1));
        }
    }

    private static void put(Set<Integer> set, int i, boolean in) {
        if (in) {
            set.add(i);
        } else {
            set.remove(i);
        }
    }

    private static void sendNotice(World w, int node, Draws draws) {
        Node n = w.nodes.get(node);
        if (n.choosers.isEmpty()) {
            return;
        }
        if (!n.choosers.equals(n.lastTold)) {
            n.number = n.number == 15 ? 0 : n.number + 1;
            n.lastTold = new TreeSet<>(n.choosers);
        }
        int[] flood = floodFrom(w, node, false, draws, i -> takesIn(w, i, node, n.number, n.lastTold));
        w.notices.add(new int[] {w.tick, node, Integer.bitCount(flood[0]), flood[1]});
    }

    public int add(int will) {
        return answer(() -> {
            among(will, 0, 7);
            refuse(5, world.nodes.size() == 8);
            world.nodes.add(new Node(will));
            return world.nodes.size() - 1;
        });
    }

    public boolean turn(int node, boolean on) {
        return does(() -> {
            refuse(6, nodeAt(node).on == on);
            nodeAt(node).on = on;
            return true;
        });
    }

    public int will(int node, int will) {
        return answer(() -> {
            among(will, 0, 7);
            Node n = nodeAt(node);
            int had = n.will;
            n.will = will;
            return had;
        });
    }

    public boolean ear(int first, int second, boolean hears) {
        return does(() -> {
            two(first, second);
            Set<Integer> heard = world.nodes.get(second).hears;
            refuse(6, heard.contains(first) == hears);
            put(heard, first, hears);
            return true;
        });
    }

    public int set(int what, int much) {
        return answer(() -> {
            among(what, 0, 3);
            int was;
            if (what == 0) {
                among(much, 1, 9);
                was = world.every;
                world.every = much;
            } else if (what == 1) {
                among(much, 1, 99);
                was = world.hold;
                world.hold = much;
            } else if (what == 2) {
                among(much, 1, 999);
                refuse(1, much < world.fall);
                was = world.rise;
                world.rise = much;
            } else {
                among(much, 0, world.rise);
                was = world.fall;
                world.fall = much;
            }
            return was;
        });
    }

    public int jam(int first, int second, int ticks) {
        return answer(() -> {
            among(ticks, 0, 99);
            two(first, second);
            Integer had = world.nodes.get(second).jam.put(first, ticks);
            return had == null ? 0 : had;
        });
    }

    public int tick(int many) {
        return answer(() -> {
            among(many, 1, 200);
            for (int i = 0; i < many; i++) {
                tickOn(world, null);
            }
            return world.tick;
        });
    }

    public int run(int ticks, int seed, int loss) {
        return answer(() -> {
            among(ticks, 1, 200);
            among(seed, 0, 9999);
            among(loss, 0, 16);
            Draws draws = new Draws(seed, loss);
            for (int i = 0; i < ticks; i++) {
                tickOn(world, draws);
            }
            return draws.lost;
        });
    }

    public int mark() {
        return answer(() -> {
            refuse(5, marks.size() == 4);
            marks.push(world.copy());
            return marks.size();
        });
    }

    public int back() {
        return answer(() -> {
            refuse(7, marks.isEmpty());
            world = marks.pop();
            return marks.size();
        });
    }
}
