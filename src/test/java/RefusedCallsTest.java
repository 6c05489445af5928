import java.lang.reflect.InvocationTargetException;
import java.lang.reflect.Method;
import java.util.Arrays;
import java.util.function.Function;
import java.util.function.Supplier;

/**
 * Section 6: each call that is refused gives NONE, or false, with its STATUS, the first of those that hold;
 * and all is as it was before: an object of the same past, which is not asked, tells the same.
 */
public final class RefusedCallsTest {
    private static final Check CHECK = new Check("RefusedCallsTest");
    private static final int MIN = Integer.MIN_VALUE;
    private static final int MAX = Integer.MAX_VALUE;
    /** Twenty bytes for the tape. */
    private static final String TAPE = "nodes 1;will 0 5;   ";

    public static void main(String[] args) throws ReflectiveOperationException {
        textAndCounts();
        ofOneNode();
        ofALink();
        ofRoutes();
        ofTheTruth();
        ofFloods();
        deeds();
        settings();
        whereThereIsNone();
        whereAllIsFull();
        whereItDoesNotComeToThat();
        loadsWithAFault();
        callsThatOnlyTell();
        CHECK.end();
    }

    /** 0 - 1 - 2 - 3 have settled, 4 is OFF, 5 is alone; there is a MARK, and a text on the tape. */
    private static ChosenRelays settled() {
        ChosenRelays x = withoutTape();
        Meshes.feed(x, TAPE);
        return x;
    }

    private static ChosenRelays withoutTape() {
        ChosenRelays x = Meshes.of("nodes 3;air 0 1;air 1 2;every 1;", 7);
        x.mark();
        Meshes.load(x, "nodes 6;air 0 1;air 1 2;air 2 3;off 4;hold 9;jam 5 0 50;");
        x.tick(8);
        return x;
    }

    private static ChosenRelays empty() {
        return new ChosenRelays();
    }

    private static ChosenRelays full() {
        ChosenRelays x = new ChosenRelays();
        for (int i = 0; i < 4; i++) {
            x.add(i);
            x.mark();
        }
        for (int i = 0; i < 4; i++) {
            x.add(i);
        }
        for (int i = 0; i < 20; i++) {
            Meshes.feed(x, TAPE);
        }
        return x;
    }

    /** Nobody is WILLING, so that 0 is never told of 3. */
    private static ChosenRelays unwilling() {
        return Meshes.of("nodes 5;air 0 1;air 1 2;air 2 3;will 0 0;will 1 0;will 2 0;will 3 0;", 8);
    }

    /** GOING from 0 and from 1 to 3 goes ROUND. */
    private static ChosenRelays round() {
        ChosenRelays x = Meshes.of("nodes 4;air 0 1;air 1 2;hold 99;", 6);
        x.echo(0, 1, 9, 8);
        x.echo(1, 0, 9, 8);
        return x;
    }

    private static Method named(String name) {
        for (Method method : ChosenRelays.class.getMethods()) {
            if (method.getName().equals(name) && method.getDeclaringClass() == ChosenRelays.class) {
                return method;
            }
        }
        throw new IllegalStateException(name);
    }

    /** A boolean as 1, or NONE. */
    private static int ask(ChosenRelays x, String name, Object... args) throws ReflectiveOperationException {
        try {
            Object got = named(name).invoke(x, args);
            return got instanceof Boolean ? (Boolean) got ? 1 : ChosenRelays.NONE : (Integer) got;
        } catch (InvocationTargetException e) {
            throw new IllegalStateException(name + " threw", e.getCause());
        }
    }

    private static void refuses(Supplier<ChosenRelays> made, int status, String name, Object... args)
        throws ReflectiveOperationException {
        String call = name + Arrays.toString(args);
        for (Function<ChosenRelays, String> part : Snapshot.PARTS) {
            ChosenRelays x = made.get();
            CHECK.refused(x, call, ask(x, name, args), status);
            CHECK.due("status() again behind " + call, x.status(), status);
            CHECK.due("all as it was behind " + call, part.apply(x).equals(part.apply(made.get())), true);
        }
    }

    private static void settledRefuses(int status, String name, Object... args) throws ReflectiveOperationException {
        refuses(RefusedCallsTest::settled, status, name, args);
    }

    private static void textAndCounts() throws ReflectiveOperationException {
        for (int n : new int[] {-1, 21, 400, 401, MIN, MAX}) {
            settledRefuses(1, "load", n);
        }
        for (int what : new int[] {-1, 11, MIN, MAX}) {
            settledRefuses(1, "many", what);
        }
    }

    private static void ofOneNode() throws ReflectiveOperationException {
        for (String name : new String[] {"would", "bestWill", "least", "needed", "table", "busy", "mends"}) {
            for (int node : new int[] {-1, 6, 8, MIN, MAX}) {
                settledRefuses(2, name, node);
            }
        }
        for (int node : new int[] {-1, 6, 8, MIN, MAX}) {
            settledRefuses(2, "node", node, 0);
            settledRefuses(2, "pick", node, 0);
            settledRefuses(2, "pick", node, 99);
            settledRefuses(2, "covers", node, 1);
            settledRefuses(2, "wrong", node, 0);
            settledRefuses(2, "flood", node, 0);
            settledRefuses(1, "node", node, 10);
            settledRefuses(1, "pick", node, -1);
            settledRefuses(1, "covers", node, 64);
            settledRefuses(1, "wrong", node, 3);
            settledRefuses(1, "flood", node, 4);
        }
        for (int what : new int[] {-1, 10, MIN, MAX}) {
            settledRefuses(1, "node", 0, what);
        }
        settledRefuses(1, "pick", 0, -1);
        settledRefuses(1, "pick", 0, MIN);
        settledRefuses(7, "pick", 0, 0);
        settledRefuses(7, "pick", 0, 1);
        settledRefuses(7, "pick", 4, 0);
        settledRefuses(7, "pick", 0, MAX);
        for (int set : new int[] {-1, 64, 65, 127, 128, 256, MIN, MAX}) {
            settledRefuses(1, "covers", 0, set);
            settledRefuses(1, "covers", 4, set);
        }
    }

    private static void ofALink() throws ReflectiveOperationException {
        int[][] noNode = {{6, 0}, {0, 6}, {-1, 0}, {0, -1}, {6, 6}, {-1, -1}, {8, 9}, {MIN, MAX}, {4, 6}, {6, 4}};
        for (int[] two : noNode) {
            settledRefuses(2, "link", two[0], two[1], 0);
            settledRefuses(2, "topology", two[0], two[1], 0);
            settledRefuses(2, "proves", two[0], two[1], 1, 1, 0);
            settledRefuses(1, "link", two[0], two[1], 6);
            settledRefuses(1, "topology", two[0], two[1], 3);
            settledRefuses(1, "proves", two[0], two[1], 1, 31, 0);
        }
        for (int node : new int[] {0, 4, 5}) {
            settledRefuses(3, "link", node, node, 0);
            settledRefuses(3, "topology", node, node, 0);
            settledRefuses(3, "proves", node, node, 1, 1, 0);
            settledRefuses(1, "link", node, node, -1);
            settledRefuses(1, "topology", node, node, -1);
            settledRefuses(1, "proves", node, node, 1, 1, 3);
        }
        for (int what : new int[] {-1, 6, MIN, MAX}) {
            settledRefuses(1, "link", 0, 1, what);
        }
        for (int what : new int[] {-1, 3, MIN, MAX}) {
            settledRefuses(1, "topology", 0, 2, what);
            settledRefuses(1, "topology", 0, 3, what);
            settledRefuses(1, "proves", 0, 1, 1, 1, what);
        }
        for (int n : new int[] {-1, 0, 31, 32, MIN, MAX}) {
            settledRefuses(1, "proves", 0, 1, 0, n, 0);
        }
        // 3 has no CHOOSERS, so it told of none; 4 is OFF, so it was told of none
        settledRefuses(7, "topology", 0, 3, 0);
        settledRefuses(7, "topology", 4, 1, 0);
        settledRefuses(7, "topology", 0, 4, 2);
    }

    private static void ofRoutes() throws ReflectiveOperationException {
        int[][] noNode = {{6, 0}, {0, 6}, {-1, 0}, {0, -1}, {6, 6}, {-1, -1}, {4, 6}, {6, 4}, {MIN, MAX}};
        for (int[] two : noNode) {
            settledRefuses(2, "route", two[0], two[1], 0);
            settledRefuses(2, "goes", two[0], two[1], 0);
            settledRefuses(2, "path", two[0], two[1], 0);
            settledRefuses(2, "path", two[0], two[1], 99);
            settledRefuses(2, "sure", two[0], two[1]);
            settledRefuses(1, "route", two[0], two[1], 2);
            settledRefuses(1, "goes", two[0], two[1], 3);
            settledRefuses(1, "path", two[0], two[1], -1);
        }
        for (int node : new int[] {0, 4, 5}) {
            settledRefuses(3, "route", node, node, 0);
            settledRefuses(3, "goes", node, node, 0);
            settledRefuses(3, "path", node, node, 0);
            settledRefuses(3, "path", node, node, 99);
            settledRefuses(3, "sure", node, node);
            settledRefuses(1, "route", node, node, -1);
            settledRefuses(1, "goes", node, node, -1);
            settledRefuses(1, "path", node, node, MIN);
        }
        for (int what : new int[] {-1, 2, MIN, MAX}) {
            settledRefuses(1, "route", 0, 3, what);
            settledRefuses(1, "route", 0, 5, what);
        }
        for (int what : new int[] {-1, 3, MIN, MAX}) {
            settledRefuses(1, "goes", 0, 3, what);
            settledRefuses(1, "goes", 4, 3, what);
            settledRefuses(1, "astray", what);
        }
        settledRefuses(7, "route", 0, 5, 0);
        settledRefuses(7, "route", 0, 4, 1);
        settledRefuses(7, "route", 4, 0, 0);
        settledRefuses(4, "goes", 4, 0, 0);
        settledRefuses(4, "path", 4, 0, 0);
        settledRefuses(4, "path", 4, 0, 99);
        settledRefuses(4, "sure", 4, 0);
        settledRefuses(1, "path", 4, 0, -1);
        settledRefuses(1, "path", 0, 3, -1);
        settledRefuses(7, "path", 0, 3, 4);
        settledRefuses(7, "path", 0, 3, 8);
        settledRefuses(7, "path", 0, 3, 9);
        settledRefuses(7, "path", 0, 3, MAX);
        settledRefuses(7, "path", 0, 5, 1);
    }

    private static void ofTheTruth() throws ReflectiveOperationException {
        int[][] noNode = {{6, 0}, {0, 6}, {-1, 0}, {0, -1}, {6, 6}, {-1, -1}, {4, 6}, {6, 4}, {MIN, MAX}};
        for (int[] two : noNode) {
            settledRefuses(2, "far", two[0], two[1]);
        }
        for (int node : new int[] {0, 4, 5}) {
            settledRefuses(3, "far", node, node);
        }
        settledRefuses(4, "far", 4, 0);
        settledRefuses(4, "far", 0, 4);
        settledRefuses(4, "far", 5, 4);
        settledRefuses(7, "far", 0, 5);
        settledRefuses(7, "far", 5, 0);
        for (int what : new int[] {-1, 3, MIN, MAX}) {
            settledRefuses(1, "wrong", 0, what);
            settledRefuses(1, "wrong", 4, what);
            settledRefuses(1, "spine", what);
        }
        for (int what = 0; what < 3; what++) {
            settledRefuses(4, "wrong", 4, what);
        }
    }

    private static void ofFloods() throws ReflectiveOperationException {
        for (int what : new int[] {-1, 4, MIN, MAX}) {
            settledRefuses(1, "flood", 0, what);
            settledRefuses(1, "flood", 4, what);
            settledRefuses(1, "notice", 0, what);
            settledRefuses(1, "notice", 15, what);
        }
        for (int what = 0; what < 4; what++) {
            settledRefuses(4, "flood", 4, what);
        }
        for (int i : new int[] {-1, 16, MIN, MAX}) {
            settledRefuses(1, "notice", i, 0);
            settledRefuses(1, "notice", i, 4);
        }
        for (int i : new int[] {4, 5, 15}) {
            settledRefuses(7, "notice", i, 0);
        }
        for (int number : new int[] {-1, 16, MIN, MAX}) {
            settledRefuses(1, "older", number, 0);
            settledRefuses(1, "older", 0, number);
            settledRefuses(1, "echo", 0, 1, number, 0);
        }
        for (int set : new int[] {-1, 64, 128, 255, 256, MIN, MAX}) {
            settledRefuses(1, "echo", 0, 1, 0, set);
        }
        settledRefuses(1, "echo", 6, 0, 16, 0);
        settledRefuses(1, "echo", 6, 0, 0, 64);
        settledRefuses(1, "echo", 0, 0, 0, 64);
        settledRefuses(1, "echo", 4, 0, 16, 0);
        int[][] noNode = {{6, 0}, {0, 6}, {-1, 0}, {0, -1}, {6, 6}, {-1, -1}, {4, 6}, {6, 4}};
        for (int[] two : noNode) {
            settledRefuses(2, "echo", two[0], two[1], 0, 0);
        }
        settledRefuses(3, "echo", 0, 0, 0, 0);
        settledRefuses(3, "echo", 4, 4, 0, 0);
        settledRefuses(4, "echo", 4, 0, 0, 0);
    }

    private static void deeds() throws ReflectiveOperationException {
        for (int will : new int[] {-1, 8, MIN, MAX}) {
            settledRefuses(1, "add", will);
            settledRefuses(1, "will", 0, will);
            settledRefuses(1, "will", 6, will);
        }
        for (int node : new int[] {-1, 6, 8, MIN, MAX}) {
            settledRefuses(2, "will", node, 0);
            settledRefuses(2, "turn", node, true);
            settledRefuses(2, "turn", node, false);
        }
        settledRefuses(6, "turn", 0, true);
        settledRefuses(6, "turn", 4, false);
        int[][] noNode = {{6, 0}, {0, 6}, {-1, 0}, {0, -1}, {6, 6}, {-1, -1}, {MIN, MAX}};
        for (int[] two : noNode) {
            settledRefuses(2, "ear", two[0], two[1], true);
            settledRefuses(2, "ear", two[0], two[1], false);
            settledRefuses(2, "jam", two[0], two[1], 1);
            settledRefuses(1, "jam", two[0], two[1], 100);
        }
        settledRefuses(3, "ear", 0, 0, true);
        settledRefuses(3, "ear", 0, 0, false);
        settledRefuses(6, "ear", 0, 1, true);
        settledRefuses(6, "ear", 1, 0, true);
        settledRefuses(6, "ear", 0, 2, false);
        settledRefuses(3, "jam", 4, 4, 1);
        for (int ticks : new int[] {-1, 100, MIN, MAX}) {
            settledRefuses(1, "jam", 0, 1, ticks);
            settledRefuses(1, "jam", 0, 0, ticks);
        }
        for (int ticks : new int[] {-1, 0, 201, MIN, MAX}) {
            settledRefuses(1, "tick", ticks);
            settledRefuses(1, "run", ticks, 0, 0);
        }
        for (int seed : new int[] {-1, 10000, MIN, MAX}) {
            settledRefuses(1, "run", 1, seed, 0);
        }
        for (int loss : new int[] {-1, 17, MIN, MAX}) {
            settledRefuses(1, "run", 1, 0, loss);
        }
    }

    private static void settings() throws ReflectiveOperationException {
        for (int what : new int[] {-1, 4, MIN, MAX}) {
            settledRefuses(1, "set", what, 1);
        }
        int[][] bad = {{-1, 0, 10, 99, MIN, MAX}, {-1, 0, 100, MIN, MAX}, {-1, 0, 299, 1000, MIN, MAX}, {-1, 701, 999, MIN, MAX}};
        for (int what = 0; what < 4; what++) {
            for (int much : bad[what]) {
                settledRefuses(1, "set", what, much);
            }
        }
        // with a FALL of 0, RISE is 1 still
        refuses(() -> {
            ChosenRelays x = settled();
            x.set(3, 0);
            return x;
        }, 1, "set", 2, 0);
    }

    private static void whereThereIsNone() throws ReflectiveOperationException {
        refuses(RefusedCallsTest::empty, 7, "back");
        refuses(RefusedCallsTest::empty, 7, "notice", 0, 0);
        refuses(RefusedCallsTest::empty, 1, "load", 1);
        for (String name : new String[] {"would", "bestWill", "least", "needed", "table", "busy", "mends"}) {
            refuses(RefusedCallsTest::empty, 2, name, 0);
        }
        for (String name : new String[] {"node", "pick", "covers", "wrong", "flood", "will"}) {
            refuses(RefusedCallsTest::empty, 2, name, 0, 0);
        }
        for (String name : new String[] {"link", "topology", "route", "goes", "path", "jam"}) {
            refuses(RefusedCallsTest::empty, 2, name, 0, 0, 0);
        }
        refuses(RefusedCallsTest::empty, 2, "far", 0, 1);
        refuses(RefusedCallsTest::empty, 2, "sure", 0, 1);
        refuses(RefusedCallsTest::empty, 2, "proves", 0, 1, 1, 1, 0);
        refuses(RefusedCallsTest::empty, 2, "turn", 0, true);
        refuses(RefusedCallsTest::empty, 2, "ear", 0, 1, true);
        refuses(RefusedCallsTest::empty, 2, "echo", 0, 1, 0, 0);
        // a SET with a NODE that there is not
        refuses(RefusedCallsTest::empty, 1, "echo", 0, 1, 0, 1);
        refuses(RefusedCallsTest::empty, 1, "covers", 0, 1);
        ChosenRelays x = empty();
        x.mark();
        x.back();
        CHECK.refused(x, "back() of a MARK that is gone", x.back(), 7);
    }

    private static void whereAllIsFull() throws ReflectiveOperationException {
        for (int will = 0; will < 8; will++) {
            refuses(RefusedCallsTest::full, 5, "add", will);
        }
        refuses(RefusedCallsTest::full, 1, "add", -1);
        refuses(RefusedCallsTest::full, 1, "add", 8);
        refuses(RefusedCallsTest::full, 5, "mark");
        refuses(RefusedCallsTest::full, 1, "load", 401);
        refuses(RefusedCallsTest::full, 2, "node", 8, 0);
        refuses(RefusedCallsTest::full, 2, "turn", 8, false);
        refuses(RefusedCallsTest::full, 1, "covers", 0, 256);
        refuses(RefusedCallsTest::full, 1, "covers", 0, 511);
        refuses(RefusedCallsTest::full, 1, "echo", 0, 1, 0, 256);
        ChosenRelays x = full();
        CHECK.fine(x, "covers(0, 255)", x.covers(0, 255), 0);
        CHECK.fine(x, "echo(0, 1, 15, 255)", x.echo(0, 1, 15, 255), 1);
    }

    private static void whereItDoesNotComeToThat() throws ReflectiveOperationException {
        refuses(RefusedCallsTest::unwilling, 8, "settles");
        refuses(RefusedCallsTest::unwilling, 8, "mends", 4);
        refuses(RefusedCallsTest::unwilling, 2, "mends", 5);
        settledRefuses(8, "sure", 0, 5);
        settledRefuses(8, "sure", 0, 4);
        settledRefuses(8, "sure", 5, 0);
        refuses(RefusedCallsTest::round, 8, "sure", 0, 3);
        refuses(RefusedCallsTest::round, 8, "sure", 1, 3);
    }

    /** "but load() with 9 the tape, and what fault() tells": the mesh and the MARKS stay. */
    private static void loadsWithAFault() {
        String[] texts = {"#", "air", "off 0;", "nodes 0;", "every 1;every 1;", "nodes 8;nodes 1;"};
        int[] places = {0, 3, 4, 6, 8, 14};
        for (int i = 0; i < texts.length; i++) {
            for (Function<ChosenRelays, String> part : Snapshot.PARTS) {
                ChosenRelays x = withoutTape();
                CHECK.refused(x, "load of " + texts[i], Meshes.load(x, texts[i]), 9);
                CHECK.due("fault(0) of " + texts[i], x.fault(0), i + 1);
                CHECK.due("fault(1) of " + texts[i], x.fault(1), places[i]);
                CHECK.due("status() behind fault()", x.status(), 9);
                CHECK.refused(x, "the tape is empty", x.load(1), 1);
                CHECK.due("a FAULT stays told", x.fault(0), i + 1);
                CHECK.due("all but fault() as it was behind " + texts[i],
                    butFault(part.apply(x)).equals(butFault(part.apply(withoutTape()))), true);
            }
        }
    }

    private static String butFault(String told) {
        return told.replaceAll("(fault|its place) -?\\d+\n", "");
    }

    /** What is only asked, and ON PAPER, leaves all as it is. */
    private static void callsThatOnlyTell() throws ReflectiveOperationException {
        String[][] calls = {
            {"waste", "told", "settles", "cuts", "status"},
            {"many", "would", "bestWill", "least", "needed", "table", "busy", "astray", "spine", "mends", "fault"},
            {"node", "pick", "covers", "far", "wrong", "sure", "flood", "notice", "older"},
            {"link", "topology", "route", "goes", "path"}};
        for (int count = 0; count < 4; count++) {
            for (String name : calls[count]) {
                for (int i = 0; i < (count == 0 ? 1 : 12); i++) {
                    leavesAll(name, Arrays.copyOf(new Object[] {i % 6, i / 2, i % 3}, count));
                }
            }
        }
        leavesAll("proves", 0, 1, 5, 30, 2);
        leavesAll("proves", 5, 4, -1, 1, 0);
    }

    private static void leavesAll(String name, Object... args) throws ReflectiveOperationException {
        for (Function<ChosenRelays, String> part : Snapshot.PARTS) {
            ChosenRelays x = settled();
            ask(x, name, args);
            CHECK.due("all as it is behind " + name + Arrays.toString(args),
                part.apply(x).equals(part.apply(settled())), true);
        }
    }
}
