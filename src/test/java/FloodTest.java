/** Promises 31 to 35: what mends, floods. */
public final class FloodTest {
    private static final Check CHECK = new Check("FloodTest");
    /** A ring of six. */
    private static final String RING = "nodes 6;air 0 1;air 1 2;air 2 3;air 3 4;air 4 5;air 5 0;";

    public static void main(String[] args) {
        mending();
        floods();
        floodsInJams();
        sendersStandInARow();
        notices();
        numbersGoRound();
        olderOnes();
        echoes();
        CHECK.end();
    }

    private static void mending() {
        ChosenRelays x = Meshes.of(Meshes.CHAIN, 8);
        CHECK.due("told()", x.told(), 1);
        CHECK.fine(x, "mends(3)", x.mends(3), mendedByHand(Meshes.CHAIN, 8, 3));
        CHECK.fine(x, "mends(1)", x.mends(1), mendedByHand(Meshes.CHAIN, 8, 1));
        CHECK.due("1 is ON still", x.node(1, 0), 1);
        CHECK.due("the TICK", x.many(2), 8);
        x.turn(3, false);
        CHECK.fine(x, "mends(3) that is OFF: at once", x.mends(3), 0);
        CHECK.refused(x, "mends(4)", x.mends(4), 2);
        CHECK.refused(x, "mends(-1)", x.mends(-1), 2);
        // nobody is willing, so that 0 is never told of 3
        x = Meshes.of("nodes 5;air 0 1;air 1 2;air 2 3;will 0 0;will 1 0;will 2 0;will 3 0;");
        CHECK.refused(x, "mends(4), which is of no use", x.mends(4), 8);
        CHECK.due("the TICK", x.many(2), 0);
        CHECK.fine(x, "mends(0)", x.mends(0), 4);
        CHECK.fine(x, "mends(1)", x.mends(1), 3);
    }

    private static int mendedByHand(String text, int ticks, int node) {
        ChosenRelays x = Meshes.of(text, ticks);
        x.turn(node, x.node(node, 0) == 0);
        int needed = 0;
        while (x.told() == 0 && needed < 120) {
            x.tick(1);
            needed++;
        }
        return needed;
    }

    private static void floods() {
        ChosenRelays x = Meshes.of(Meshes.CHAIN);
        CHECK.fine(x, "flood(1, 0) without neighbours", x.flood(1, 0), 0);
        CHECK.fine(x, "flood(1, 1)", x.flood(1, 1), 1);
        CHECK.fine(x, "flood(1, 2)", x.flood(1, 2), 0);
        CHECK.fine(x, "flood(1, 3)", x.flood(1, 3), 1);
        x.tick(8);
        for (int node = 0; node < 4; node++) {
            CHECK.fine(x, "flood(" + node + ", 0)", x.flood(node, 0), 15 & ~(1 << node));
            CHECK.fine(x, "flood(" + node + ", 1)", x.flood(node, 1), node == 0 || node == 3 ? 3 : 2);
            CHECK.fine(x, "flood(" + node + ", 2)", x.flood(node, 2), 15 & ~(1 << node));
            CHECK.fine(x, "flood(" + node + ", 3)", x.flood(node, 3), 4);
        }
        CHECK.due("nothing was sent", x.many(5), 4);
        CHECK.refused(x, "flood(0, 4)", x.flood(0, 4), 1);
        CHECK.refused(x, "flood(9, -1)", x.flood(9, -1), 1);
        CHECK.refused(x, "flood(4, 0)", x.flood(4, 0), 2);
        x.turn(2, false);
        CHECK.refused(x, "flood(2, 0)", x.flood(2, 0), 4);
        CHECK.fine(x, "flood(0, 0), 2 is OFF", x.flood(0, 0), 2);
        CHECK.fine(x, "flood(0, 1)", x.flood(0, 1), 2);
        x.turn(2, true);
        x.ear(0, 1, false);
        CHECK.fine(x, "flood(0, 0), 1 does not hear", x.flood(0, 0), 0);
        CHECK.fine(x, "flood(3, 0)", x.flood(3, 0), 7);
    }

    private static void floodsInJams() {
        ChosenRelays x = Meshes.of(Meshes.CHAIN, 8);
        x.jam(1, 2, 1);
        CHECK.fine(x, "flood(0, 0)", x.flood(0, 0), 2);
        CHECK.fine(x, "flood(0, 1)", x.flood(0, 1), 2);
        CHECK.fine(x, "flood(0, 2)", x.flood(0, 2), 2);
        CHECK.fine(x, "flood(3, 0)", x.flood(3, 0), 7);
        x.tick(1);
        CHECK.fine(x, "flood(0, 0) without the JAM", x.flood(0, 0), 14);
    }

    /** In a ring, 3 gets what 0 sends by both sides. */
    private static void sendersStandInARow() {
        ChosenRelays x = Meshes.of(RING, 12);
        for (int node = 0; node < 6; node++) {
            CHECK.due("RELAYS of " + node, x.node(node, 6), 1 << (node + 1) % 6 | 1 << (node + 5) % 6);
        }
        CHECK.fine(x, "flood(0, 0)", x.flood(0, 0), 62);
        CHECK.fine(x, "flood(0, 1)", x.flood(0, 1), 6);
        // 3 gets a copy of 1, who did not choose it, ahead of one of 2, who did
        x = Meshes.of("nodes 5;air 0 1;air 0 2;air 1 3;air 1 4;air 2 3;air 3 4;will 0 7;will 2 7;", 8);
        CHECK.due("RELAYS of 0", x.node(0, 6), 6);
        CHECK.due("CHOOSERS of 3", x.node(3, 7), 20);
        CHECK.fine(x, "flood(0, 0)", x.flood(0, 0), 30);
        CHECK.fine(x, "flood(0, 1)", x.flood(0, 1), 4);
        CHECK.fine(x, "flood(0, 2)", x.flood(0, 2), 30);
        CHECK.fine(x, "flood(0, 3)", x.flood(0, 3), 5);
    }

    private static void notices() {
        ChosenRelays x = Meshes.of(Meshes.CHAIN, 6);
        int[][] want = {{6, 2, 3, 2}, {6, 1, 3, 2}};
        for (int i = 0; i < 2; i++) {
            for (int what = 0; what < 4; what++) {
                CHECK.fine(x, "notice(" + i + ", " + what + ")", x.notice(i, what), want[i][what]);
            }
        }
        CHECK.refused(x, "notice(2, 0)", x.notice(2, 0), 7);
        CHECK.refused(x, "notice(-1, 0)", x.notice(-1, 0), 1);
        CHECK.refused(x, "notice(16, 0)", x.notice(16, 0), 1);
        CHECK.refused(x, "notice(0, 4)", x.notice(0, 4), 1);
        CHECK.refused(x, "notice(5, -1)", x.notice(5, -1), 1);
        x.tick(18);
        for (int i = 0; i < 16; i++) {
            CHECK.fine(x, "notice(" + i + ", 0)", x.notice(i, 0), 24 - i / 2 * 2);
            CHECK.fine(x, "notice(" + i + ", 1)", x.notice(i, 1), i % 2 == 0 ? 2 : 1);
        }
        x.jam(1, 0, 3);
        x.jam(1, 2, 3);
        x.tick(2);
        CHECK.due("NOTICE of 1 in jams: TICK", x.notice(0, 0), 26);
        CHECK.due("its NODE", x.notice(0, 1), 2);
        CHECK.due("NOTICE of 1: who got it", x.notice(1, 2), 0);
        CHECK.due("NOTICE of 1: how often sent", x.notice(1, 3), 1);
    }

    private static void numbersGoRound() {
        ChosenRelays x = Meshes.of("nodes 3;air 0 1;air 1 2;", 6);
        CHECK.due("NUMBER of 1", x.node(1, 2), 1);
        CHECK.due("NUMBER of 0", x.node(0, 2), 0);
        x.set(0, 1);
        int number = 1;
        for (int i = 0; i < 20; i++) {
            // 2 is away, and back
            x.ear(1, 2, i % 2 == 1);
            x.tick(12);
            boolean both = i % 2 == 1;
            CHECK.due("CHOOSERS of 1", x.node(1, 7), both ? 5 : 0);
            CHECK.due("what the last NOTICE told", x.node(1, 8) != 0, true);
            int now = x.node(1, 2);
            CHECK.due("NUMBER of 1 stays or goes on", Math.floorMod(now - number, 16) <= 4, true);
            number = now;
        }

        // CHOOSERS 3 and 1 by turns: the NUMBER goes round
        x = Meshes.of("nodes 4;air 0 1;air 1 2;air 1 3;every 1;", 6);
        CHECK.due("CHOOSERS", x.node(1, 7), 13);
        int was = x.node(1, 2);
        boolean round = false;
        for (int i = 0; i < 16; i++) {
            x.ear(3, 1, i % 2 == 1);
            x.tick(12);
            CHECK.due("CHOOSERS", x.node(1, 7), i % 2 == 1 ? 13 : 5);
            CHECK.due("last told", x.node(1, 8), i % 2 == 1 ? 13 : 5);
            int now = x.node(1, 2);
            CHECK.due("another NUMBER", now == was, false);
            CHECK.due("NUMBER of 0 to 15", now >= 0 && now <= 15, true);
            CHECK.due("known to 0", x.topology(0, 1, 1), now);
            round |= now < was;
            was = now;
        }
        CHECK.due("came round", round, true);
        CHECK.due("OLD", x.many(7), 0);
    }

    private static void olderOnes() {
        for (int a = 0; a < 16; a++) {
            ChosenRelays x = new ChosenRelays();
            for (int ahead = 0; ahead < 16; ahead++) {
                int b = (a + ahead) % 16;
                CHECK.fine(x, "older(" + a + ", " + b + ")", x.older(a, b), ahead >= 1 && ahead <= 7 ? 1 : 0);
            }
        }
        ChosenRelays x = new ChosenRelays();
        CHECK.refused(x, "older(-1, 0)", x.older(-1, 0), 1);
        CHECK.refused(x, "older(0, -1)", x.older(0, -1), 1);
        CHECK.refused(x, "older(16, 0)", x.older(16, 0), 1);
        CHECK.refused(x, "older(0, 16)", x.older(0, 16), 1);
    }

    private static void echoes() {
        ChosenRelays x = Meshes.of("nodes 3;hold 9;");
        CHECK.fine(x, "echo(0, 1, 15, 7)", x.echo(0, 1, 15, 7), 1);
        CHECK.fine(x, "topology(0, 1, 0)", x.topology(0, 1, 0), 7);
        CHECK.fine(x, "topology(0, 1, 1)", x.topology(0, 1, 1), 15);
        CHECK.fine(x, "topology(0, 1, 2)", x.topology(0, 1, 2), 9);
        x.tick(1);
        CHECK.fine(x, "echo(0, 1, 8, 1) is OLD", x.echo(0, 1, 8, 1), 0);
        CHECK.due("OLD", x.many(7), 1);
        CHECK.due("topology(0, 1, 2) as it was", x.topology(0, 1, 2), 8);
        CHECK.fine(x, "echo(0, 1, 15, 2), the same NUMBER", x.echo(0, 1, 15, 2), 1);
        CHECK.due("topology(0, 1, 0)", x.topology(0, 1, 0), 2);
        CHECK.due("topology(0, 1, 2)", x.topology(0, 1, 2), 9);
        CHECK.fine(x, "echo(0, 1, 7, 0), 8 off", x.echo(0, 1, 7, 0), 1);
        CHECK.fine(x, "echo(0, 1, 6, 0)", x.echo(0, 1, 6, 0), 0);
        CHECK.due("OLD", x.many(7), 2);
        CHECK.fine(x, "echo(1, 0, 6, 0), another's", x.echo(1, 0, 6, 0), 1);
        CHECK.due("NOTICES", x.many(5), 0);
        CHECK.refused(x, "echo(0, 1, 16, 0)", x.echo(0, 1, 16, 0), 1);
        CHECK.refused(x, "echo(0, 1, -1, 0)", x.echo(0, 1, -1, 0), 1);
        CHECK.refused(x, "echo(9, 9, 0, 8)", x.echo(9, 9, 0, 8), 1);
        CHECK.refused(x, "echo(0, 1, 0, -1)", x.echo(0, 1, 0, -1), 1);
        CHECK.refused(x, "echo(3, 3, 0, 0)", x.echo(3, 3, 0, 0), 2);
        CHECK.refused(x, "echo(0, 3, 0, 0)", x.echo(0, 3, 0, 0), 2);
        x.turn(2, false);
        CHECK.refused(x, "echo(2, 2, 0, 0)", x.echo(2, 2, 0, 0), 3);
        CHECK.refused(x, "echo(2, 1, 0, 0)", x.echo(2, 1, 0, 0), 4);
        CHECK.fine(x, "echo(1, 2, 0, 0), the other one may be OFF", x.echo(1, 2, 0, 0), 1);
    }
}
