/** Nothing there yet, one NODE, and everything full: all calls of an empty mesh, of one, of eight, and 512 calls. */
public final class EmptyAndFullTest {
    private static final Check CHECK = new Check("EmptyAndFullTest");
    private static final String CHAIN =
        "nodes 8;air 0 1;air 1 2;air 2 3;air 3 4;air 4 5;air 5 6;air 6 7;";

    public static void main(String[] args) {
        withoutNodes();
        oneNode();
        nodesAndLinksOfEight();
        routesOfEight();
        waysOfEight();
        floodsOfEight();
        mendsOfEight();
        allHearAll();
        allAreAlwaysRelays();
        allIsFull();
        fiveHundredAndTwelveCalls();
        CHECK.end();
    }

    private static int bit(int node) {
        return node >= 0 && node < 8 ? 1 << node : 0;
    }

    private static void withoutNodes() {
        ChosenRelays x = new ChosenRelays();
        CHECK.due("status()", x.status(), 0);
        int[] many = {0, 0, 0, 2, 6, 0, 0, 0, 0, 700, 300};
        for (int what = 0; what < many.length; what++) {
            CHECK.fine(x, "many(" + what + ")", x.many(what), many[what]);
        }
        CHECK.fine(x, "waste()", x.waste(), 0);
        CHECK.fine(x, "told()", x.told(), 1);
        CHECK.fine(x, "settles()", x.settles(), 0);
        CHECK.fine(x, "cuts()", x.cuts(), 0);
        for (int what = 0; what < 3; what++) {
            CHECK.fine(x, "astray(" + what + ")", x.astray(what), 0);
            CHECK.fine(x, "spine(" + what + ")", x.spine(what), what == 1 ? 1 : 0);
        }
        CHECK.fine(x, "older(15, 0)", x.older(15, 0), 1);
        CHECK.refused(x, "covers(0, 0)", x.covers(0, 0), 2);
        CHECK.refused(x, "far(0, 0)", x.far(0, 0), 2);
        CHECK.fine(x, "tick(200)", x.tick(200), 200);
        CHECK.fine(x, "run(200, 9999, 16)", x.run(200, 9999, 16), 0);
        CHECK.fine(x, "set(0, 9)", x.set(0, 9), 2);
        CHECK.fine(x, "mark()", x.mark(), 1);
        CHECK.fine(x, "back()", x.back(), 0);
        CHECK.fine(x, "many(2)", x.many(2), 400);
        CHECK.fine(x, "load(0) of an empty tape", x.load(0), 0);
        CHECK.fine(x, "many(2) of a new MESH", x.many(2), 0);
        CHECK.fine(x, "many(3) of a new MESH", x.many(3), 2);
        CHECK.due("fault(0)", x.fault(0), 0);
        CHECK.due("fault(1)", x.fault(1), -1);
    }

    private static void oneNode() {
        ChosenRelays x = new ChosenRelays();
        CHECK.fine(x, "add(7)", x.add(7), 0);
        CHECK.fine(x, "tick(9)", x.tick(9), 9);
        int[] node = {1, 7, 0, 0, 0, 0, 0, 0, 0, 0};
        for (int what = 0; what < node.length; what++) {
            CHECK.fine(x, "node(0, " + what + ")", x.node(0, what), node[what]);
        }
        CHECK.fine(x, "would(0)", x.would(0), 0);
        CHECK.refused(x, "pick(0, 0)", x.pick(0, 0), 7);
        CHECK.fine(x, "bestWill(0)", x.bestWill(0), 0);
        CHECK.fine(x, "least(0)", x.least(0), 0);
        CHECK.fine(x, "covers(0, 1)", x.covers(0, 1), 0);
        CHECK.refused(x, "covers(0, 2)", x.covers(0, 2), 1);
        CHECK.fine(x, "needed(0)", x.needed(0), 0);
        CHECK.fine(x, "waste()", x.waste(), 0);
        CHECK.fine(x, "table(0)", x.table(0), 0);
        CHECK.fine(x, "busy(0)", x.busy(0), 0);
        CHECK.fine(x, "told()", x.told(), 1);
        CHECK.fine(x, "settles()", x.settles(), 0);
        CHECK.fine(x, "mends(0)", x.mends(0), 0);
        CHECK.fine(x, "cuts()", x.cuts(), 0);
        int[] spine = {0, 0, 1};
        for (int what = 0; what < 3; what++) {
            CHECK.fine(x, "wrong(0, " + what + ")", x.wrong(0, what), 0);
            CHECK.fine(x, "astray(" + what + ")", x.astray(what), 0);
            CHECK.fine(x, "spine(" + what + ")", x.spine(what), spine[what]);
        }
        for (int what = 0; what < 4; what++) {
            CHECK.fine(x, "flood(0, " + what + ")", x.flood(0, what), what % 2);
        }
        CHECK.refused(x, "far(0, 0)", x.far(0, 0), 3);
        CHECK.refused(x, "far(0, 1)", x.far(0, 1), 2);
        CHECK.refused(x, "link(0, 0, 0)", x.link(0, 0, 0), 3);
        CHECK.refused(x, "echo(0, 0, 0, 1)", x.echo(0, 0, 0, 1), 3);
        CHECK.fine(x, "run(200, 0, 16)", x.run(200, 0, 16), 0);
        CHECK.due("turn(0, false)", x.turn(0, false), true);
        CHECK.fine(x, "told()", x.told(), 1);
        CHECK.fine(x, "mends(0)", x.mends(0), 0);
        CHECK.fine(x, "spine(1), nobody is ON", x.spine(1), 1);
        CHECK.refused(x, "flood(0, 0)", x.flood(0, 0), 4);
    }

    private static void nodesAndLinksOfEight() {
        ChosenRelays x = Meshes.of(CHAIN, 20);
        for (int i = 0; i < 8; i++) {
            boolean inner = i > 0 && i < 7;
            int near = bit(i - 1) | bit(i + 1);
            int behind = bit(i - 2) | bit(i + 2);
            int relays = (i > 1 ? bit(i - 1) : 0) | (i < 6 ? bit(i + 1) : 0);
            int[] node = {1, 3, inner ? 1 : 0, near, near, behind, relays, inner ? near : 0, inner ? near : 0, near};
            for (int what = 0; what < 10; what++) {
                CHECK.fine(x, "node(" + i + ", " + what + ") of eight", x.node(i, what), node[what]);
            }
            CHECK.fine(x, "would(" + i + ")", x.would(i), relays);
            CHECK.fine(x, "least(" + i + ")", x.least(i), relays);
            CHECK.fine(x, "needed(" + i + ")", x.needed(i), relays);
            CHECK.fine(x, "covers(" + i + ", 255)", x.covers(i, 255), behind);
            CHECK.refused(x, "pick(" + i + ", 0)", x.pick(i, 0), 7);
        }
        CHECK.fine(x, "many(0)", x.many(0), 8);
        CHECK.fine(x, "many(1)", x.many(1), 255);
        CHECK.fine(x, "waste()", x.waste(), 0);
        CHECK.refused(x, "node(8, 0)", x.node(8, 0), 2);

        x = Meshes.of(CHAIN, 20);
        for (int i = 0; i < 8; i++) {
            for (int j = 0; j < 8; j++) {
                boolean near = Math.abs(i - j) == 1;
                boolean further = j < i ? i < 7 : i > 0;
                int[] link = {999, 1, 1, bit(j - 1) | bit(j + 1), further ? 1 : 0, 0};
                for (int what = 0; what < 6 && i != j; what++) {
                    CHECK.due("link(" + i + ", " + j + ", " + what + ") of eight", x.link(i, j, what), near ? link[what] : 0);
                }
            }
        }
        x = Meshes.of(CHAIN, 20);
        for (int i = 0; i < 8; i++) {
            for (int j = 0; j < 8; j++) {
                boolean told = j > 0 && j < 7;
                int[] topology = {bit(j - 1) | bit(j + 1), 1, 6};
                for (int what = 0; what < 3 && i != j; what++) {
                    CHECK.due("topology(" + i + ", " + j + ", " + what + ") of eight", x.topology(i, j, what),
                        told ? topology[what] : -1);
                }
            }
        }
    }

    private static void routesOfEight() {
        ChosenRelays x = Meshes.of(CHAIN, 20);
        for (int i = 0; i < 8; i++) {
            CHECK.fine(x, "table(" + i + ")", x.table(i), 255 & ~bit(i));
            for (int j = 0; j < 8; j++) {
                if (i != j) {
                    CHECK.due("route(" + i + ", " + j + ", 0)", x.route(i, j, 0), Math.abs(i - j));
                    CHECK.due("route(" + i + ", " + j + ", 1)", x.route(i, j, 1), i < j ? i + 1 : i - 1);
                    CHECK.due("far(" + i + ", " + j + ")", x.far(i, j), Math.abs(i - j));
                    CHECK.due("sure(" + i + ", " + j + ")", x.sure(i, j), 1000000);
                }
            }
        }
        CHECK.fine(x, "told()", x.told(), 1);
        CHECK.fine(x, "settles()", x.settles(), 0);
        CHECK.fine(x, "cuts()", x.cuts(), 126);
        int[] spine = {126, 1, 126};
        for (int what = 0; what < 3; what++) {
            CHECK.fine(x, "astray(" + what + ")", x.astray(what), 0);
            CHECK.fine(x, "spine(" + what + ")", x.spine(what), spine[what]);
            for (int i = 0; i < 8; i++) {
                CHECK.fine(x, "wrong(" + i + ", " + what + ")", x.wrong(i, what), 0);
            }
        }
        x = Meshes.of(CHAIN);
        for (int i = 0; i < 8; i++) {
            CHECK.fine(x, "table(" + i + ") without ROUTES", x.table(i), 0);
            CHECK.fine(x, "wrong(" + i + ", 0) without ROUTES", x.wrong(i, 0), 255 & ~bit(i));
        }
        CHECK.fine(x, "astray(0) without ROUTES", x.astray(0), 56);
    }

    private static void waysOfEight() {
        ChosenRelays x = Meshes.of(CHAIN, 20);
        for (int i = 0; i < 8; i++) {
            CHECK.fine(x, "busy(" + i + ")", x.busy(i), 2 * i * (7 - i));
            for (int j = 0; j < 8; j++) {
                if (i != j) {
                    CHECK.due("goes(" + i + ", " + j + ", 0)", x.goes(i, j, 0), 0);
                    CHECK.due("goes(" + i + ", " + j + ", 1)", x.goes(i, j, 1), Math.abs(i - j));
                    CHECK.due("goes(" + i + ", " + j + ", 2)", x.goes(i, j, 2), j);
                    CHECK.due("path(" + i + ", " + j + ", 0)", x.path(i, j, 0), i);
                    CHECK.due("path(" + i + ", " + j + ", 1)", x.path(i, j, 1), i < j ? i + 1 : i - 1);
                    CHECK.due("path to its end", x.path(i, j, Math.abs(i - j)), j);
                    CHECK.refused(x, "path beyond its end", x.path(i, j, Math.abs(i - j) + 1), 7);
                }
            }
        }
        for (int i = 0; i < 8; i++) {
            CHECK.fine(x, "path(0, 7, " + i + ")", x.path(0, 7, i), i);
            CHECK.fine(x, "path(7, 0, " + i + ")", x.path(7, 0, i), 7 - i);
        }
        CHECK.refused(x, "path(0, 7, 8)", x.path(0, 7, 8), 7);
        CHECK.refused(x, "path(0, 7, 9)", x.path(0, 7, 9), 7);
    }

    private static void floodsOfEight() {
        ChosenRelays x = Meshes.of(CHAIN, 20);
        for (int i = 0; i < 8; i++) {
            CHECK.fine(x, "flood(" + i + ", 0)", x.flood(i, 0), 255 & ~bit(i));
            CHECK.fine(x, "flood(" + i + ", 1)", x.flood(i, 1), i == 0 || i == 7 ? 7 : 6);
            CHECK.fine(x, "flood(" + i + ", 2)", x.flood(i, 2), 255 & ~bit(i));
            CHECK.fine(x, "flood(" + i + ", 3)", x.flood(i, 3), 8);
        }
        CHECK.fine(x, "NOTICES of eight TICKS", x.many(5), 48);
        CHECK.fine(x, "how often they were sent", x.many(6), 288);
        CHECK.fine(x, "OLD", x.many(7), 0);
        for (int i = 0; i < 16; i++) {
            int[] notice = {20 - i / 6 * 2, 6 - i % 6, 7, 6};
            for (int what = 0; what < 4; what++) {
                CHECK.fine(x, "notice(" + i + ", " + what + ")", x.notice(i, what), notice[what]);
            }
        }
    }

    private static void mendsOfEight() {
        for (int node = 0; node < 8; node++) {
            ChosenRelays y = Meshes.of(CHAIN, 20);
            y.turn(node, false);
            int ticks = 0;
            while (y.told() == 0 && ticks < 121) {
                y.tick(1);
                ticks++;
            }
            ChosenRelays x = Meshes.of(CHAIN, 20);
            CHECK.fine(x, "mends(" + node + ") of eight", x.mends(node), ticks);
            CHECK.due("some TICKS", ticks > 0 && ticks <= 20, true);
            x.turn(node, false);
            CHECK.fine(x, "settles() without " + node, x.settles(), ticks);
            CHECK.fine(x, "mends(" + node + ") at once", x.mends(node), 0);
        }
    }

    /** All 28 PAIRS: nobody is BEHIND, so there are no RELAYS and no NOTICES. */
    private static ChosenRelays all(String more) {
        StringBuilder text = new StringBuilder("nodes8;");
        for (int i = 0; i < 8; i++) {
            for (int j = i + 1; j < 8; j++) {
                text.append("air").append(i).append(' ').append(j).append(';');
            }
        }
        return Meshes.of(text.append(more).toString(), 20);
    }

    private static void allHearAll() {
        ChosenRelays x = all("");
        for (int i = 0; i < 8; i++) {
            int others = 255 & ~bit(i);
            int[] node = {1, 3, 0, others, others, 0, 0, 0, 0, others};
            for (int what = 0; what < 10; what++) {
                CHECK.due("node(" + i + ", " + what + ") of all", x.node(i, what), node[what]);
            }
            CHECK.due("KNOWN", x.link(i, 7 - i, 3), 255 & ~bit(7 - i));
            CHECK.due("table(" + i + ")", x.table(i), others);
            CHECK.due("covers(" + i + ", 255)", x.covers(i, 255), 0);
            CHECK.due("flood(" + i + ", 0)", x.flood(i, 0), others);
            CHECK.due("flood(" + i + ", 1)", x.flood(i, 1), 1);
            CHECK.due("flood(" + i + ", 2)", x.flood(i, 2), others);
            CHECK.due("flood(" + i + ", 3)", x.flood(i, 3), 8);
            CHECK.due("busy(" + i + ")", x.busy(i), 0);
            CHECK.due("bestWill(" + i + ")", x.bestWill(i), 0);
        }
        CHECK.fine(x, "told()", x.told(), 1);
        CHECK.fine(x, "waste()", x.waste(), 0);
        CHECK.fine(x, "cuts()", x.cuts(), 0);
        CHECK.fine(x, "NOTICES", x.many(5), 0);
        int[] spine = {0, 0, 1};
        for (int what = 0; what < 3; what++) {
            CHECK.fine(x, "spine(" + what + ")", x.spine(what), spine[what]);
        }
    }

    private static void allAreAlwaysRelays() {
        ChosenRelays x = all("will 0 7;will 1 7;will 2 7;will 3 7;will 4 7;will 5 7;will 6 7;will 7 7;every 5;");
        for (int i = 0; i < 8; i++) {
            int others = 255 & ~bit(i);
            CHECK.due("RELAYS of " + i, x.node(i, 6), others);
            CHECK.due("CHOOSERS of " + i, x.node(i, 7), others);
            CHECK.due("told by " + i, x.node(i, 8), others);
            CHECK.due("NUMBER of " + i, x.node(i, 2), 1);
            CHECK.due("needed(" + i + ")", x.needed(i), 0);
            CHECK.due("least(" + i + ")", x.least(i), 0);
            CHECK.due("flood(" + i + ", 1)", x.flood(i, 1), 8);
            for (int j = 0; j < 8; j++) {
                if (j != i) {
                    CHECK.due("topology(" + i + ", " + j + ", 0)", x.topology(i, j, 0), 255 & ~bit(j));
                }
            }
        }
        CHECK.fine(x, "waste()", x.waste(), 56);
        CHECK.fine(x, "spine(0)", x.spine(0), 255);
        CHECK.fine(x, "spine(1)", x.spine(1), 1);
        CHECK.fine(x, "NOTICES in 5, 10, 15 and 20", x.many(5), 32);
        CHECK.fine(x, "each was sent by all", x.many(6), 256);
        // 56 HELLOS, then 8 NOTICES: each is lost to all seven
        x.set(0, 1);
        CHECK.fine(x, "run(1, 1, 16)", x.run(1, 1, 16), 112);
        CHECK.fine(x, "sent once each", x.many(6), 264);
    }

    private static void allIsFull() {
        ChosenRelays x = Meshes.of(CHAIN, 20);
        for (int i = 1; i <= 4; i++) {
            CHECK.fine(x, "mark()", x.mark(), i);
        }
        for (int i = 20; i <= 400; i += 20) {
            CHECK.due("feed()", Meshes.feed(x, "air 0 1;air 0 1;    "), i);
        }
        CHECK.due("feed(), no more", x.feed(0, 0, 0, 0, 0), -1);
        CHECK.refused(x, "mark(), no more", x.mark(), 5);
        CHECK.refused(x, "add(0), no more", x.add(0), 5);
        CHECK.refused(x, "load(400), no such NODE", x.load(400), 9);
        CHECK.due("fault(0)", x.fault(0), 3);
        CHECK.due("fault(1)", x.fault(1), 4);
        CHECK.fine(x, "many(8)", x.many(8), 4);
        CHECK.fine(x, "load(0)", x.load(0), 0);
        for (int i = 3; i >= 0; i--) {
            CHECK.fine(x, "back()", x.back(), i);
            CHECK.fine(x, "many(0)", x.many(0), 8);
            CHECK.fine(x, "many(2)", x.many(2), 20);
            CHECK.fine(x, "told()", x.told(), 1);
            x.load(0);
        }
        CHECK.refused(x, "back(), no more", x.back(), 7);
    }

    /** "An object is used for at most 512 calls after it has been made": the dearest ones, and the last one. */
    private static void fiveHundredAndTwelveCalls() {
        ChosenRelays x = new ChosenRelays();
        int calls = 0;
        for (int i = 0; i < 8; i++) {
            CHECK.due("add(3)", x.add(3), i);
            calls++;
        }
        for (int i = 0; i < 7; i++) {
            CHECK.due("ear()", x.ear(i, i + 1, true), true);
            CHECK.due("ear()", x.ear(i + 1, i, true), true);
            calls += 2;
        }
        int ticks = 0;
        while (calls < 504) {
            ticks += 200;
            CHECK.due("tick(200)", x.tick(200), ticks);
            ticks += 200;
            x.run(200, calls, 16);
            x.settles();
            x.mends(calls % 8);
            x.bestWill(calls % 8);
            x.mark();
            x.back();
            calls += 7;
        }
        while (calls < 511) {
            ticks += 200;
            CHECK.due("tick(200), call " + calls, x.tick(200), ticks);
            calls++;
        }
        CHECK.due("told(), the 512th call", x.told(), 1);
    }
}
