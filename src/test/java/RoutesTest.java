/** Promises 17 to 30: routes. */
public final class RoutesTest {
    private static final Check CHECK = new Check("RoutesTest");

    public static void main(String[] args) {
        routes();
        routesByWhomItIsKnown();
        routesByTopology();
        tables();
        going();
        goingRound();
        goingIsLost();
        inTruth();
        wrongs();
        toldAndSettled();
        paths();
        busyOnes();
        sureOnes();
        astrayOnes();
        proofs();
        spines();
        backs();
        cutOnes();
        CHECK.end();
    }

    private static void routes() {
        ChosenRelays x = Meshes.of(Meshes.CHAIN, 6);
        int[][] steps = {{0, 1, 2, 3}, {1, 0, 1, 2}, {2, 1, 0, 1}, {3, 2, 1, 0}};
        for (int node = 0; node < 4; node++) {
            for (int other = 0; other < 4; other++) {
                if (other != node) {
                    String call = "route(" + node + ", " + other + ", ";
                    CHECK.fine(x, call + "0)", x.route(node, other, 0), steps[node][other]);
                    CHECK.fine(x, call + "1)", x.route(node, other, 1), other > node ? node + 1 : node - 1);
                }
            }
        }
        CHECK.refused(x, "route(0, 1, 2)", x.route(0, 1, 2), 1);
        CHECK.refused(x, "route(4, 4, -1)", x.route(4, 4, -1), 1);
        CHECK.refused(x, "route(4, 4, 0)", x.route(4, 4, 0), 2);
        CHECK.refused(x, "route(0, -1, 0)", x.route(0, -1, 0), 2);
        CHECK.refused(x, "route(1, 1, 0)", x.route(1, 1, 0), 3);
        x.turn(0, false);
        CHECK.fine(x, "route(0, 3, 0) of one who is OFF", x.route(0, 3, 0), 3);
        x = Meshes.of(Meshes.CHAIN, 5);
        CHECK.fine(x, "route(0, 2, 0)", x.route(0, 2, 0), 2);
        CHECK.refused(x, "route(0, 3, 0)", x.route(0, 3, 0), 7);
    }

    private static void routesByWhomItIsKnown() {
        ChosenRelays x = Meshes.of(Meshes.FAN + "will 2 7;will 1 0;", 4);
        CHECK.fine(x, "route(0, 4, 1), of 1 and 2 the least, willing or not", x.route(0, 4, 1), 1);
        CHECK.fine(x, "route(0, 5, 1)", x.route(0, 5, 1), 2);
        CHECK.fine(x, "route(0, 6, 1)", x.route(0, 6, 1), 3);
        x.echo(0, 1, 0, 64);
        CHECK.fine(x, "route(0, 6, 1), KNOWN goes ahead of TOPOLOGY", x.route(0, 6, 1), 3);
        x.echo(0, 1, 0, 2 | 1 | 4);
        CHECK.fine(x, "route(0, 2, 0), NEIGHBOURS stay so", x.route(0, 2, 0), 1);
        CHECK.due("never to itself", x.table(0), 126);
    }

    private static void routesByTopology() {
        ChosenRelays x = Meshes.of("nodes 8;air 0 1;air 0 2;air 2 3;hold 99;", 5);
        CHECK.due("table(0)", x.table(0), 14);
        x.echo(0, 1, 0, 16);
        CHECK.fine(x, "route(0, 4, 0), told of a NEIGHBOUR", x.route(0, 4, 0), 2);
        CHECK.fine(x, "route(0, 4, 1)", x.route(0, 4, 1), 1);
        x.echo(0, 3, 0, 32);
        CHECK.fine(x, "route(0, 5, 0)", x.route(0, 5, 0), 3);
        CHECK.fine(x, "route(0, 5, 1)", x.route(0, 5, 1), 2);
        x.echo(0, 4, 0, 32 | 64);
        CHECK.fine(x, "route(0, 5, 1), of several the least NEXT", x.route(0, 5, 1), 1);
        x.echo(0, 5, 0, 64);
        CHECK.fine(x, "route(0, 6, 0), the fewest", x.route(0, 6, 0), 3);
        x.echo(0, 7, 0, 255);
        CHECK.refused(x, "route(0, 7, 0), told of itself alone", x.route(0, 7, 0), 7);
        x.echo(0, 6, 0, 128);
        CHECK.fine(x, "route(0, 7, 0)", x.route(0, 7, 0), 4);
        x.echo(0, 2, 0, 16);
        CHECK.fine(x, "route(0, 4, 1), by 1 or 2", x.route(0, 4, 1), 1);
        x.echo(0, 1, 0, 0);
        CHECK.fine(x, "route(0, 4, 1), by 2", x.route(0, 4, 1), 2);

        // told of each other: one after the other, seven steps
        x = Meshes.of("nodes 8;air 0 1;", 4);
        for (int i = 1; i < 7; i++) {
            x.echo(0, i, 0, 2 << i);
            CHECK.fine(x, "route to " + (i + 1), x.route(0, i + 1, 0), i + 1);
            CHECK.fine(x, "route by 1", x.route(0, i + 1, 1), 1);
        }
    }

    private static void tables() {
        ChosenRelays x = Meshes.of(Meshes.CHAIN, 2);
        CHECK.fine(x, "table(1)", x.table(1), 0);
        x.tick(1);
        CHECK.fine(x, "table(1)", x.table(1), 5);
        x.tick(1);
        CHECK.fine(x, "table(1)", x.table(1), 13);
        CHECK.fine(x, "table(0)", x.table(0), 6);
        x.tick(2);
        CHECK.fine(x, "table(0)", x.table(0), 14);
        CHECK.refused(x, "table(4)", x.table(4), 2);
        CHECK.refused(x, "table(-1)", x.table(-1), 2);
    }

    private static void going() {
        ChosenRelays x = Meshes.of(Meshes.CHAIN, 6);
        CHECK.fine(x, "goes(3, 0, 0)", x.goes(3, 0, 0), 0);
        CHECK.fine(x, "goes(3, 0, 1)", x.goes(3, 0, 1), 3);
        CHECK.fine(x, "goes(3, 0, 2)", x.goes(3, 0, 2), 0);
        CHECK.refused(x, "goes(0, 1, 3)", x.goes(0, 1, 3), 1);
        CHECK.refused(x, "goes(4, 4, -1)", x.goes(4, 4, -1), 1);
        CHECK.refused(x, "goes(4, 4, 0)", x.goes(4, 4, 0), 2);
        CHECK.refused(x, "goes(0, 4, 0)", x.goes(0, 4, 0), 2);
        x.turn(0, false);
        CHECK.refused(x, "goes(0, 0, 0)", x.goes(0, 0, 0), 3);
        CHECK.refused(x, "goes(0, 1, 0)", x.goes(0, 1, 0), 4);
        CHECK.fine(x, "goes(1, 0, 0), 0 is OFF", x.goes(1, 0, 0), 1);
        CHECK.fine(x, "goes(3, 0, 1), 0 is OFF", x.goes(3, 0, 1), 2);
        CHECK.fine(x, "goes(3, 0, 2), 0 is OFF", x.goes(3, 0, 2), 1);
    }

    /** 0 is told that 1 leads to 3, 1 is told that 0 does. */
    private static void goingRound() {
        ChosenRelays x = Meshes.of("nodes 4;air 0 1;air 1 2;hold 99;", 6);
        x.echo(0, 1, 9, 8);
        x.echo(1, 0, 9, 8);
        x.echo(2, 1, 9, 8);
        CHECK.fine(x, "goes(0, 3, 0)", x.goes(0, 3, 0), 2);
        CHECK.fine(x, "goes(0, 3, 1)", x.goes(0, 3, 1), 2);
        CHECK.fine(x, "goes(0, 3, 2)", x.goes(0, 3, 2), 0);
        CHECK.fine(x, "goes(2, 3, 1)", x.goes(2, 3, 1), 3);
        CHECK.fine(x, "goes(2, 3, 2)", x.goes(2, 3, 2), 1);
        int[] path = {2, 1, 0, 1};
        for (int i = 0; i < path.length; i++) {
            CHECK.fine(x, "path(2, 3, " + i + ")", x.path(2, 3, i), path[i]);
        }
        CHECK.refused(x, "path(2, 3, 4)", x.path(2, 3, 4), 7);
        CHECK.refused(x, "sure(2, 3)", x.sure(2, 3), 8);
        CHECK.fine(x, "astray(1)", x.astray(1), 3);
        CHECK.fine(x, "astray(0)", x.astray(0), 3);
        CHECK.fine(x, "busy(1), of those there alone", x.busy(1), 2);
    }

    private static void goingIsLost() {
        ChosenRelays x = Meshes.of(Meshes.CHAIN, 6);
        x.ear(2, 3, false);
        CHECK.fine(x, "goes(0, 3, 0), 3 does not hear 2", x.goes(0, 3, 0), 1);
        CHECK.fine(x, "goes(0, 3, 1)", x.goes(0, 3, 1), 2);
        CHECK.fine(x, "goes(0, 3, 2)", x.goes(0, 3, 2), 2);
        CHECK.fine(x, "goes(3, 0, 0), the other way", x.goes(3, 0, 0), 0);
        x.jam(2, 1, 9);
        CHECK.fine(x, "goes(3, 0, 0) in spite of a JAM", x.goes(3, 0, 0), 0);
        x = Meshes.of(Meshes.CHAIN);
        CHECK.fine(x, "goes(0, 1, 0) without ROUTES", x.goes(0, 1, 0), 1);
        CHECK.fine(x, "goes(0, 1, 1) without ROUTES", x.goes(0, 1, 1), 0);
        CHECK.fine(x, "goes(0, 1, 2) without ROUTES", x.goes(0, 1, 2), 0);
        CHECK.refused(x, "sure(0, 1)", x.sure(0, 1), 8);
        CHECK.fine(x, "path(0, 1, 0)", x.path(0, 1, 0), 0);
        CHECK.refused(x, "path(0, 1, 1)", x.path(0, 1, 1), 7);
    }

    private static void inTruth() {
        ChosenRelays x = Meshes.of("nodes 8;air 0 1;air 1 2;air 2 3;air 3 4;air 4 5;air 5 6;ear 0 6;");
        CHECK.fine(x, "far(0, 6)", x.far(0, 6), 6);
        CHECK.fine(x, "far(6, 0)", x.far(6, 0), 6);
        CHECK.fine(x, "far(2, 5)", x.far(2, 5), 3);
        CHECK.refused(x, "far(0, 7)", x.far(0, 7), 7);
        x.ear(6, 0, true);
        CHECK.fine(x, "far(0, 6), both hear", x.far(0, 6), 1);
        CHECK.fine(x, "far(1, 4)", x.far(1, 4), 3);
        x.ear(6, 7, true);
        x.ear(7, 6, true);
        CHECK.fine(x, "far(3, 7)", x.far(3, 7), 4);
        x.jam(6, 7, 9);
        CHECK.fine(x, "far(3, 7) in spite of a JAM", x.far(3, 7), 4);
        x.turn(5, false);
        CHECK.fine(x, "far(4, 7) round about", x.far(4, 7), 6);
        CHECK.refused(x, "far(5, 7)", x.far(5, 7), 4);
        CHECK.refused(x, "far(7, 5)", x.far(7, 5), 4);
        CHECK.refused(x, "far(5, 5)", x.far(5, 5), 3);
        CHECK.refused(x, "far(8, 8)", x.far(8, 8), 2);
        CHECK.refused(x, "far(0, -1)", x.far(0, -1), 2);
        x.ear(1, 0, false);
        CHECK.refused(x, "far(4, 7), none", x.far(4, 7), 7);
        x = Meshes.of("nodes 8;air 0 1;air 1 2;air 2 3;air 3 4;air 4 5;air 5 6;air 6 7;");
        CHECK.fine(x, "far(0, 7)", x.far(0, 7), 7);
    }

    private static void wrongs() {
        ChosenRelays x = Meshes.of(Meshes.CHAIN);
        CHECK.fine(x, "wrong(1, 0), all are missing", x.wrong(1, 0), 13);
        x.tick(5);
        CHECK.fine(x, "wrong(0, 0)", x.wrong(0, 0), 8);
        x.tick(1);
        for (int what = 0; what < 3; what++) {
            CHECK.fine(x, "wrong(0, " + what + ")", x.wrong(0, what), 0);
        }
        x.ear(0, 3, true);
        x.ear(3, 0, true);
        CHECK.fine(x, "wrong(0, 1), too long", x.wrong(0, 1), 8);
        CHECK.fine(x, "wrong(0, 0)", x.wrong(0, 0), 0);
        CHECK.fine(x, "wrong(0, 2)", x.wrong(0, 2), 0);
        x.ear(0, 1, false);
        CHECK.fine(x, "wrong(0, 2), not as short", x.wrong(0, 2), 2);
        x.ear(2, 3, false);
        CHECK.fine(x, "wrong(0, 2), no way", x.wrong(0, 2), 6);
        x.echo(0, 2, 15, 0);
        CHECK.fine(x, "wrong(0, 1), 3 is told of no more? it was OLD", x.wrong(0, 1), 8);
        CHECK.refused(x, "wrong(0, 3)", x.wrong(0, 3), 1);
        CHECK.refused(x, "wrong(9, -1)", x.wrong(9, -1), 1);
        CHECK.refused(x, "wrong(4, 0)", x.wrong(4, 0), 2);
        x.turn(1, false);
        CHECK.refused(x, "wrong(1, 0)", x.wrong(1, 0), 4);
        CHECK.fine(x, "wrong(2, 2), to one who is OFF", x.wrong(2, 2) & 2, 2);
    }

    private static void toldAndSettled() {
        ChosenRelays x = Meshes.of(Meshes.CHAIN);
        for (int i = 0; i < 6; i++) {
            CHECK.fine(x, "told() at " + i, x.told(), 0);
            CHECK.fine(x, "settles() at " + i, x.settles(), 6 - i);
            CHECK.due("the TICK stays", x.many(2), i);
            x.tick(1);
        }
        CHECK.fine(x, "told()", x.told(), 1);
        CHECK.fine(x, "settles()", x.settles(), 0);
        x.ear(0, 3, true);
        CHECK.fine(x, "told(), one ear is no way", x.told(), 1);
        x.ear(3, 0, true);
        CHECK.fine(x, "told(), ROUTES are too long", x.told(), 0);
        x = Meshes.of(Meshes.CHAIN + "off 0;off 1;off 2;off 3;");
        CHECK.fine(x, "told(), all are OFF", x.told(), 1);
        x = Meshes.of(Meshes.CHAIN + "will 0 0;will 1 0;will 2 0;will 3 0;");
        CHECK.refused(x, "settles(), nobody is willing", x.settles(), 8);
        CHECK.due("many(2)", x.many(2), 0);
        x = Meshes.of("nodes 2;air 0 1;jam 0 1 99;", 1);
        CHECK.fine(x, "settles() behind a JAM", x.settles(), 101);
        // heard from 100 on, UP at 109, NEIGHBOURS at 110, chosen at 111, told at 112: the NOTICE comes at 120
        x = Meshes.of("nodes 4;every 9;");
        x.set(2, 999);
        x.tick(6);
        for (int i = 0; i < 3; i++) {
            x.ear(i, i + 1, true);
            x.ear(i + 1, i, true);
            x.jam(i, i + 1, 99);
            x.jam(i + 1, i, 99);
        }
        CHECK.fine(x, "settles() in as many TICKS as can be", x.settles(), 120);
        x = Meshes.of("nodes 4;air 0 1;air 1 2;air 2 3;every 1;");
        CHECK.fine(x, "settles() with EVERY 1", x.settles(), 5);
        x.set(2, 999);
        x.tick(1);
        x.tick(200);
        CHECK.fine(x, "told() with a RISE of 999", x.told(), 1);
    }

    private static void paths() {
        ChosenRelays x = Meshes.of(Meshes.CHAIN, 6);
        for (int i = 0; i < 4; i++) {
            CHECK.fine(x, "path(3, 0, " + i + ")", x.path(3, 0, i), 3 - i);
        }
        CHECK.refused(x, "path(3, 0, 4)", x.path(3, 0, 4), 7);
        CHECK.refused(x, "path(3, 0, 99)", x.path(3, 0, 99), 7);
        CHECK.refused(x, "path(4, 4, -1)", x.path(4, 4, -1), 1);
        CHECK.refused(x, "path(4, 4, 0)", x.path(4, 4, 0), 2);
        x.turn(3, false);
        CHECK.refused(x, "path(3, 3, 0)", x.path(3, 3, 0), 3);
        CHECK.refused(x, "path(3, 0, 9)", x.path(3, 0, 9), 4);
        CHECK.fine(x, "path(0, 3, 2)", x.path(0, 3, 2), 2);
        CHECK.refused(x, "path(0, 3, 3)", x.path(0, 3, 3), 7);
    }

    private static void busyOnes() {
        ChosenRelays x = Meshes.of(Meshes.FAN, 12);
        int[] all = new int[7];
        for (int from = 0; from < 7; from++) {
            for (int to = 0; to < 7; to++) {
                for (int i = 1; from != to && i < x.goes(from, to, 1); i++) {
                    all[x.path(from, to, i)]++;
                }
            }
        }
        for (int node = 0; node < 7; node++) {
            CHECK.fine(x, "busy(" + node + ")", x.busy(node), all[node]);
        }
        CHECK.due("busy(6), at the end", x.busy(6), 0);
        CHECK.due("busy(3), who leads to 6", x.busy(3) >= 10, true);
        CHECK.refused(x, "busy(7)", x.busy(7), 2);
        CHECK.refused(x, "busy(-1)", x.busy(-1), 2);
        x = Meshes.of(Meshes.CHAIN, 6);
        CHECK.fine(x, "busy(2)", x.busy(2), 4);
        x.turn(3, false);
        CHECK.fine(x, "busy(2), 3 is OFF", x.busy(2), 0);
        CHECK.fine(x, "busy(1), 3 is OFF", x.busy(1), 2);
        CHECK.fine(x, "busy(3), it is OFF", x.busy(3), 0);
    }

    private static void sureOnes() {
        ChosenRelays x = Meshes.of(Meshes.CHAIN, 6);
        CHECK.fine(x, "sure(0, 1)", x.sure(0, 1), 984984);
        CHECK.fine(x, "sure(0, 2)", x.sure(0, 2), 970194);
        CHECK.fine(x, "sure(0, 3)", x.sure(0, 3), 970194L * 984 / 999);
        x.jam(0, 1, 1);
        x.tick(1);
        CHECK.fine(x, "sure(0, 1), 1 heard 0 less well", x.sure(0, 1), 1000000L * 492 / 999);
        CHECK.fine(x, "sure(1, 0)", x.sure(1, 0), 1000000L * 992 / 999);
        x.turn(3, false);
        CHECK.refused(x, "sure(0, 3)", x.sure(0, 3), 8);
        CHECK.refused(x, "sure(3, 0)", x.sure(3, 0), 4);
        CHECK.refused(x, "sure(3, 3)", x.sure(3, 3), 3);
        CHECK.refused(x, "sure(4, 4)", x.sure(4, 4), 2);
        CHECK.refused(x, "sure(-1, 0)", x.sure(-1, 0), 2);
        x = Meshes.of("nodes 2;air 0 1;", 30);
        CHECK.fine(x, "sure(0, 1) at last", x.sure(0, 1), 1000000);
    }

    private static void astrayOnes() {
        ChosenRelays x = Meshes.of(Meshes.CHAIN);
        CHECK.fine(x, "astray(0) without ROUTES", x.astray(0), 12);
        x.tick(6);
        for (int what = 0; what < 3; what++) {
            CHECK.fine(x, "astray(" + what + ")", x.astray(what), 0);
        }
        x.turn(3, false);
        CHECK.fine(x, "astray(0), those who are OFF do not count", x.astray(0), 0);
        x.turn(3, true);
        x.ear(0, 3, true);
        x.ear(3, 0, true);
        CHECK.fine(x, "astray(2), by more steps", x.astray(2), 2);
        x.ear(0, 3, false);
        x.ear(1, 0, false);
        CHECK.fine(x, "astray(2), without a way", x.astray(2), 3);
        CHECK.fine(x, "astray(0)", x.astray(0), 3);
        CHECK.refused(x, "astray(3)", x.astray(3), 1);
        CHECK.refused(x, "astray(-1)", x.astray(-1), 1);
    }

    private static void proofs() {
        ChosenRelays x = Meshes.of(Meshes.CHAIN, 6);
        int[] qualities = {492, 246, 623, 811, 405};
        for (int n = 1; n <= 5; n++) {
            CHECK.fine(x, "proves(0, 1, 0b01100, " + n + ", 0)", x.proves(0, 1, 0b01100, n, 0), qualities[n - 1]);
            CHECK.fine(x, "proves(0, 1, 0b01100, " + n + ", 1)", x.proves(0, 1, 0b01100, n, 1), n == 2 || n == 3 ? 0 : 1);
            CHECK.fine(x, "proves(0, 1, 0b01100, " + n + ", 2)", x.proves(0, 1, 0b01100, n, 2), n < 2 ? 0 : n < 4 ? 1 : 2);
        }
        CHECK.fine(x, "proves(0, 1, 1, 30, 0)", x.proves(0, 1, 1, 30, 0), 0);
        CHECK.fine(x, "proves(0, 1, -1, 30, 0)", x.proves(0, 1, -1, 30, 0), 999);
        CHECK.fine(x, "proves(0, 1, -2, 1, 0)", x.proves(0, 1, -2, 1, 0), 492);
        CHECK.fine(x, "proves(3, 0, 0x2aaaaaaa, 30, 0)", x.proves(3, 0, 0x2aaaaaaa, 30, 0), 666);
        CHECK.due("QUALITY stays", x.link(0, 1, 0), 984);
        x.set(3, 500);
        CHECK.fine(x, "proves(0, 1, 2, 2, 2), the first one counts", x.proves(0, 1, 2, 2, 2), 2);
        CHECK.fine(x, "proves(0, 1, 0, 1, 2)", x.proves(0, 1, 0, 1, 2), 1);
        CHECK.refused(x, "proves(0, 1, 0, 0, 0)", x.proves(0, 1, 0, 0, 0), 1);
        CHECK.refused(x, "proves(0, 1, 0, 31, 0)", x.proves(0, 1, 0, 31, 0), 1);
        CHECK.refused(x, "proves(0, 1, 0, 1, 3)", x.proves(0, 1, 0, 1, 3), 1);
        CHECK.refused(x, "proves(4, 4, 0, 1, -1)", x.proves(4, 4, 0, 1, -1), 1);
        CHECK.refused(x, "proves(4, 4, 0, 1, 0)", x.proves(4, 4, 0, 1, 0), 2);
        CHECK.refused(x, "proves(2, 2, 0, 1, 0)", x.proves(2, 2, 0, 1, 0), 3);
    }

    private static void spines() {
        ChosenRelays x = Meshes.of(Meshes.CHAIN, 6);
        CHECK.fine(x, "spine(0)", x.spine(0), 6);
        CHECK.fine(x, "spine(1)", x.spine(1), 1);
        x.turn(1, false);
        CHECK.fine(x, "spine(0), 1 is OFF", x.spine(0), 4);
        CHECK.fine(x, "spine(1), 0 is left", x.spine(1), 0);
        x.turn(0, false);
        CHECK.fine(x, "spine(1)", x.spine(1), 1);
        x.turn(3, false);
        CHECK.fine(x, "spine(0), who chose it is OFF", x.spine(0), 0);
        CHECK.fine(x, "spine(1), nobody", x.spine(1), 0);
        x = Meshes.of(Meshes.CHAIN, 6);
        x.turn(2, false);
        x.turn(3, false);
        CHECK.fine(x, "spine(0), 0 alone chose 1", x.spine(0), 2);
        // all are always chosen
        String chain = "nodes 8;air 0 1;air 1 2;air 2 3;air 3 4;air 4 5;air 5 6;air 6 7;"
            + "will 0 7;will 1 7;will 2 7;will 3 7;will 4 7;will 5 7;will 6 7;will 7 7;";
        x = Meshes.of(chain, 6);
        CHECK.fine(x, "spine(0) of eight", x.spine(0), 255);
        CHECK.fine(x, "spine(1) of eight", x.spine(1), 1);
        CHECK.fine(x, "spine(2) of eight", x.spine(2), 126);
        CHECK.fine(x, "cuts() of eight", x.cuts(), 126);
        CHECK.refused(x, "spine(3)", x.spine(3), 1);
        CHECK.refused(x, "spine(-1)", x.spine(-1), 1);
        // a BACK has to be joined
        x = Meshes.of("nodes 6;air 0 1;air 1 2;air 2 3;air 3 4;air 4 5;will 1 7;will 4 7;", 6);
        CHECK.due("spine(1)", x.spine(1), 1);
        x.ear(2, 3, false);
        CHECK.due("spine(1), not joined", x.spine(1), 0);
    }

    private static void backs() {
        CHECK.due("spine(2) of a chain", Meshes.of(Meshes.CHAIN).spine(2), 6);
        CHECK.due("spine(2) of one", Meshes.of("nodes 1;").spine(2), 1);
        CHECK.due("spine(1) of one", Meshes.of("nodes 1;").spine(1), 0);
        CHECK.due("spine(2) of two apart", Meshes.of("nodes 2;ear 0 1;").spine(2), 0);
        CHECK.due("spine(2) of two", Meshes.of("nodes 2;air 0 1;").spine(2), 1);
        CHECK.due("spine(2) of a ring of 5",
            Meshes.of("nodes 5;air 0 1;air 1 2;air 2 3;air 3 4;air 4 0;").spine(2), 7);
        CHECK.due("spine(2) of a star", Meshes.of("nodes 4;air 3 0;air 3 1;air 3 2;").spine(2), 8);
        CHECK.due("spine(2) of FAN, of several the least", Meshes.of(Meshes.FAN).spine(2), 0b1011);
        CHECK.due("spine(2) without 6", Meshes.of(Meshes.FAN + "off 6;").spine(2), 0b101);
        CHECK.due("spine(2) of 8", Meshes.of("nodes 8;air 0 7;air 1 7;air 2 7;air 3 7;air 4 7;air 5 7;air 6 7;").spine(2), 128);
    }

    private static void cutOnes() {
        ChosenRelays x = Meshes.of(Meshes.FAN);
        CHECK.fine(x, "cuts()", x.cuts(), 8);
        x.turn(6, false);
        CHECK.fine(x, "cuts() without 6", x.cuts(), 0);
        x.turn(0, false);
        CHECK.fine(x, "cuts() of the chain 1 4 2 5 3", x.cuts(), 52);
        x.turn(2, false);
        CHECK.fine(x, "cuts() of pairs", x.cuts(), 0);
        CHECK.due("cuts() of a chain, one side does not hear",
            Meshes.of("nodes 4;air 0 1;air 1 2;ear 2 3;").cuts(), 2);
        CHECK.due("cuts() of 8", Meshes.of("nodes 8;air 0 7;air 1 7;air 2 7;air 3 7;air 4 7;air 5 7;air 6 7;").cuts(), 128);
    }
}
