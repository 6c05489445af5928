import java.util.List;
import java.util.function.Function;

/**
 * What the calls tell of an object, as texts: two objects of which all is the same tell the same. It comes in parts,
 * each for an object of its own, as an object answers 512 calls, and a mesh of eight has more to tell.
 */
final class Snapshot {
    static final List<Function<ChosenRelays, String>> PARTS =
        List.of(Snapshot::nodes, Snapshot::links, Snapshot::topologies, Snapshot::tapeAndMarks);

    private interface Of {
        int two(int node, int other, int what);
    }

    private final ChosenRelays x;
    private final StringBuilder told = new StringBuilder();

    private Snapshot(ChosenRelays x) {
        this.x = x;
    }

    /** What is told of the nodes, all COUNTS, and the NOTICES. */
    static String nodes(ChosenRelays x) {
        Snapshot snapshot = new Snapshot(x);
        snapshot.counts();
        for (int node = 0; node < x.many(0); node++) {
            for (int what = 0; what < 10; what++) {
                snapshot.put("node(" + node + ", " + what + ")", x.node(node, what));
            }
        }
        int notices = Math.min(16, x.many(5));
        for (int i = 0; i < notices; i++) {
            for (int what = 0; what < 4; what++) {
                snapshot.put("notice(" + i + ", " + what + ")", x.notice(i, what));
            }
        }
        return snapshot.told.toString();
    }

    static String links(ChosenRelays x) {
        Snapshot snapshot = new Snapshot(x);
        snapshot.pairs(6, x::link);
        return snapshot.told.toString();
    }

    static String topologies(ChosenRelays x) {
        Snapshot snapshot = new Snapshot(x);
        snapshot.pairs(3, x::topology);
        return snapshot.told.toString();
    }

    /** The tape is read without its last three bytes. */
    static String tapeAndMarks(ChosenRelays x) {
        Snapshot snapshot = new Snapshot(x);
        int taped = x.feed(0, 0, 0, 0, 0);
        snapshot.put("feed", taped);
        snapshot.put("load", x.load(taped == ChosenRelays.NONE ? 397 : taped - 23));
        snapshot.told.append(nodes(x));
        int marks = x.many(8);
        for (int i = 0; i < marks; i++) {
            snapshot.put("back", x.back());
            snapshot.told.append(nodes(x));
        }
        return snapshot.told.toString();
    }

    private void put(String name, int answer) {
        told.append(name).append(' ').append(answer).append('\n');
    }

    private void counts() {
        put("fault", x.fault(0));
        put("its place", x.fault(1));
        for (int what = 0; what < 11; what++) {
            put("many(" + what + ")", x.many(what));
        }
    }

    private void pairs(int whats, Of call) {
        int nodes = x.many(0);
        for (int node = 0; node < nodes; node++) {
            for (int other = 0; other < nodes; other++) {
                for (int what = 0; what < whats && other != node; what++) {
                    put(node + ", " + other + ", " + what, call.two(node, other, what));
                }
            }
        }
    }
}
