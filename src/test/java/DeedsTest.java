import java.util.function.Function;

/** Promises 36 to 45: what is done. */
public final class DeedsTest {
    private static final Check CHECK = new Check("DeedsTest");

    public static void main(String[] args) {
        adding();
        turning();
        willing();
        hearing();
        setting();
        jamming();
        ticking();
        runsAreTicksWithLosses();
        drawsByHand();
        copiesAreLostToo();
        marking();
        allIsTakenBack();
        CHECK.end();
    }

    private static void adding() {
        ChosenRelays x = new ChosenRelays();
        for (int i = 0; i < 8; i++) {
            CHECK.fine(x, "add(" + i % 8 + ")", x.add(i % 8), i);
            CHECK.due("WILL", x.node(i, 1), i % 8);
            CHECK.due("ON", x.node(i, 0), 1);
            CHECK.due("hears nobody", x.node(i, 9), 0);
        }
        CHECK.refused(x, "add(3), one too many", x.add(3), 5);
        CHECK.refused(x, "add(8)", x.add(8), 1);
        CHECK.refused(x, "add(-1)", x.add(-1), 1);
        CHECK.due("many(0)", x.many(0), 8);

        x = Meshes.of("nodes 8;air 6 7;air 5 7;", 9);
        Meshes.load(x, "nodes 7;");
        x.add(2);
        for (int what = 2; what < 10; what++) {
            CHECK.due("a new one's node(7, " + what + ")", x.node(7, what), 0);
        }
        CHECK.due("nothing KNOWN of it", x.link(6, 7, 0), 0);
    }

    private static void turning() {
        ChosenRelays x = Meshes.of("nodes 2;");
        CHECK.refused(x, "turn(0, true)", x.turn(0, true), 6);
        CHECK.due("turn(0, false)", x.turn(0, false), true);
        CHECK.due("status()", x.status(), 0);
        CHECK.due("many(1)", x.many(1), 2);
        CHECK.refused(x, "turn(0, false)", x.turn(0, false), 6);
        CHECK.due("turn(0, true)", x.turn(0, true), true);
        CHECK.due("many(1)", x.many(1), 3);
        CHECK.refused(x, "turn(2, true)", x.turn(2, true), 2);
        CHECK.refused(x, "turn(2, false)", x.turn(2, false), 2);
        CHECK.refused(x, "turn(-1, true)", x.turn(-1, true), 2);
    }

    private static void willing() {
        ChosenRelays x = Meshes.of("nodes 2;");
        CHECK.fine(x, "will(1, 7)", x.will(1, 7), 3);
        CHECK.fine(x, "will(1, 7), the same", x.will(1, 7), 7);
        CHECK.fine(x, "will(1, 0)", x.will(1, 0), 7);
        CHECK.due("WILL", x.node(1, 1), 0);
        CHECK.due("WILL of the other", x.node(0, 1), 3);
        CHECK.refused(x, "will(1, 8)", x.will(1, 8), 1);
        CHECK.refused(x, "will(9, -1)", x.will(9, -1), 1);
        CHECK.refused(x, "will(2, 0)", x.will(2, 0), 2);
    }

    private static void hearing() {
        ChosenRelays x = Meshes.of("nodes 3;");
        CHECK.due("ear(0, 2, true)", x.ear(0, 2, true), true);
        CHECK.due("status()", x.status(), 0);
        CHECK.due("2 hears 0", x.node(2, 9), 1);
        CHECK.due("0 hears nobody", x.node(0, 9), 0);
        CHECK.refused(x, "ear(0, 2, true)", x.ear(0, 2, true), 6);
        CHECK.refused(x, "ear(2, 0, false)", x.ear(2, 0, false), 6);
        CHECK.due("ear(0, 2, false)", x.ear(0, 2, false), true);
        CHECK.due("2 hears nobody", x.node(2, 9), 0);
        CHECK.refused(x, "ear(1, 1, true)", x.ear(1, 1, true), 3);
        CHECK.refused(x, "ear(3, 3, true)", x.ear(3, 3, true), 2);
        CHECK.refused(x, "ear(0, -1, true)", x.ear(0, -1, true), 2);
    }

    private static void setting() {
        ChosenRelays x = new ChosenRelays();
        CHECK.fine(x, "set(0, 9)", x.set(0, 9), 2);
        CHECK.fine(x, "set(0, 1)", x.set(0, 1), 9);
        CHECK.refused(x, "set(0, 0)", x.set(0, 0), 1);
        CHECK.refused(x, "set(0, 10)", x.set(0, 10), 1);
        CHECK.fine(x, "set(1, 99)", x.set(1, 99), 6);
        CHECK.fine(x, "set(1, 1)", x.set(1, 1), 99);
        CHECK.refused(x, "set(1, 0)", x.set(1, 0), 1);
        CHECK.refused(x, "set(1, 100)", x.set(1, 100), 1);
        CHECK.refused(x, "set(2, 299)", x.set(2, 299), 1);
        CHECK.fine(x, "set(2, 300)", x.set(2, 300), 700);
        CHECK.refused(x, "set(3, 301)", x.set(3, 301), 1);
        CHECK.refused(x, "set(3, -1)", x.set(3, -1), 1);
        CHECK.fine(x, "set(3, 0)", x.set(3, 0), 300);
        CHECK.refused(x, "set(2, 0)", x.set(2, 0), 1);
        CHECK.fine(x, "set(2, 1)", x.set(2, 1), 300);
        CHECK.fine(x, "set(3, 1)", x.set(3, 1), 0);
        CHECK.refused(x, "set(2, 1000)", x.set(2, 1000), 1);
        CHECK.fine(x, "set(2, 999)", x.set(2, 999), 1);
        CHECK.fine(x, "set(3, 999)", x.set(3, 999), 1);
        CHECK.refused(x, "set(-1, 1)", x.set(-1, 1), 1);
        CHECK.refused(x, "set(4, 1)", x.set(4, 1), 1);
        int[] want = {1, 1, 999, 999};
        int[] many = {3, 4, 9, 10};
        for (int i = 0; i < 4; i++) {
            CHECK.due("many(" + many[i] + ")", x.many(many[i]), want[i]);
        }
    }

    private static void jamming() {
        ChosenRelays x = Meshes.of("nodes 3;air 0 1;");
        CHECK.fine(x, "jam(0, 1, 99)", x.jam(0, 1, 99), 0);
        CHECK.due("from 0 to 1", x.link(1, 0, 5), 99);
        CHECK.due("from 1 to 0", x.link(0, 1, 5), 0);
        x.tick(1);
        CHECK.fine(x, "jam(0, 1, 2)", x.jam(0, 1, 2), 98);
        x.tick(2);
        CHECK.due("nothing heard", x.link(1, 0, 0), 0);
        CHECK.due("the other way", x.link(0, 1, 0), 875);
        CHECK.fine(x, "jam(0, 1, 0)", x.jam(0, 1, 0), 0);
        x.tick(1);
        CHECK.due("heard", x.link(1, 0, 0), 500);
        x.jam(0, 1, 5);
        CHECK.fine(x, "jam(0, 1, 0)", x.jam(0, 1, 0), 5);
        x.tick(1);
        CHECK.due("heard at once", x.link(1, 0, 0), 750);
        CHECK.refused(x, "jam(0, 1, -1)", x.jam(0, 1, -1), 1);
        CHECK.refused(x, "jam(3, 3, 100)", x.jam(3, 3, 100), 1);
        CHECK.refused(x, "jam(3, 3, 0)", x.jam(3, 3, 0), 2);
        CHECK.refused(x, "jam(2, 2, 0)", x.jam(2, 2, 0), 3);
    }

    private static void ticking() {
        ChosenRelays x = Meshes.of(Meshes.CHAIN);
        CHECK.fine(x, "tick(200)", x.tick(200), 200);
        CHECK.fine(x, "tick(1)", x.tick(1), 201);
        CHECK.refused(x, "tick(0)", x.tick(0), 1);
        CHECK.refused(x, "tick(201)", x.tick(201), 1);
        CHECK.refused(x, "tick(-1)", x.tick(-1), 1);
        CHECK.due("many(2)", x.many(2), 201);
        CHECK.fine(new ChosenRelays(), "tick(3) without NODES", new ChosenRelays().tick(3), 3);
    }

    private static void runsAreTicksWithLosses() {
        ChosenRelays x = Meshes.of(Meshes.CHAIN);
        ChosenRelays y = Meshes.of(Meshes.CHAIN);
        CHECK.fine(x, "run(200, 9999, 0)", x.run(200, 9999, 0), 0);
        y.tick(200);
        for (int what = 0; what < 11; what++) {
            CHECK.due("as by ticks, many(" + what + ")", x.many(what), y.many(what));
        }
        for (int what = 0; what < 10; what++) {
            CHECK.due("as by ticks, node(1, " + what + ")", x.node(1, what), y.node(1, what));
        }
        CHECK.fine(x, "run(1, 0, 16), six HELLOS and four copies", x.run(1, 0, 16), 6);
        CHECK.due("all lost", x.link(0, 1, 0), 499);
        CHECK.fine(x, "run(1, 0, 16), and two NOTICES", x.run(1, 0, 16), 6);
        CHECK.due("many(2)", x.many(2), 202);
        CHECK.refused(x, "run(0, 0, 0)", x.run(0, 0, 0), 1);
        CHECK.refused(x, "run(201, 0, 0)", x.run(201, 0, 0), 1);
        CHECK.refused(x, "run(1, -1, 0)", x.run(1, -1, 0), 1);
        CHECK.refused(x, "run(1, 10000, 0)", x.run(1, 10000, 0), 1);
        CHECK.refused(x, "run(1, 0, -1)", x.run(1, 0, -1), 1);
        CHECK.refused(x, "run(1, 0, 17)", x.run(1, 0, 17), 1);
        CHECK.due("many(2)", x.many(2), 202);
    }

    /** Two nodes: in each tick a draw for what 0 hears, then one for what 1 hears. */
    private static void drawsByHand() {
        for (int loss = 0; loss <= 16; loss += 4) {
            ChosenRelays x = Meshes.of("nodes 2;air 0 1;");
            long s = 7;
            int lost = 0;
            int[] quality = {0, 0};
            for (int i = 0; i < 8; i++) {
                for (int k = 0; k < 2; k++) {
                    s = (s * 4561 + 51349) % 243000;
                    boolean heard = s * 16 / 243000 >= loss;
                    quality[k] = heard ? quality[k] + (1000 - quality[k]) / 2 : quality[k] / 2;
                    lost += heard ? 0 : 1;
                }
            }
            CHECK.fine(x, "run(8, 7, " + loss + ")", x.run(8, 7, loss), lost);
            CHECK.due("QUALITY of 0", x.link(0, 1, 0), quality[0]);
            CHECK.due("QUALITY of 1", x.link(1, 0, 0), quality[1]);
        }
    }

    /** No draw is made of what would not be heard, nor of what is jammed. */
    private static void copiesAreLostToo() {
        ChosenRelays x = Meshes.of("nodes 3;air 0 1;ear 1 2;off 2;jam 1 0 2;");
        CHECK.fine(x, "run(1, 1, 16)", x.run(1, 1, 16), 1);
        x.turn(2, true);
        CHECK.fine(x, "run(1, 1, 16)", x.run(1, 1, 16), 2);
        CHECK.fine(x, "run(1, 1, 16) without the JAM", x.run(1, 1, 16), 3);

        x = Meshes.of(Meshes.CHAIN, 7);
        int before = x.many(6);
        x.set(2, 100);
        x.set(3, 0);
        // six HELLOS; the NOTICE of 1 is lost on the way to 0 and to 2, that of 2 on the way to 1 and to 3
        CHECK.fine(x, "run(1, 5, 16) in an even TICK", x.run(1, 5, 16), 10);
        CHECK.due("each was sent once", x.many(6) - before, 2);
        CHECK.due("who got it", x.notice(0, 2), 0);
        CHECK.due("TOPOLOGY grows old", x.topology(0, 2, 2), 4);
    }

    private static void marking() {
        ChosenRelays x = new ChosenRelays();
        for (int i = 1; i <= 4; i++) {
            CHECK.fine(x, "mark() " + i, x.mark(), i);
            x.add(i);
        }
        CHECK.refused(x, "mark(), one too many", x.mark(), 5);
        CHECK.due("MARKS", x.many(8), 4);
        for (int i = 3; i >= 0; i--) {
            CHECK.fine(x, "back() " + i, x.back(), i);
            CHECK.due("NODES", x.many(0), i);
            CHECK.due("MARKS", x.many(8), i);
        }
        CHECK.refused(x, "back(), there is none", x.back(), 7);
    }

    private static void allIsTakenBack() {
        for (int ticks = 0; ticks <= 20; ticks += 20) {
            for (Function<ChosenRelays, String> part : Snapshot.PARTS) {
                ChosenRelays x = muchUsed();
                changeAll(x);
                CHECK.due("back()", x.back(), 0);
                ChosenRelays y = muchUsed();
                y.back();
                for (int i = 0; i < ticks; i++) {
                    CHECK.due("run() behind back()", x.run(1, i, 2), y.run(1, i, 2));
                }
                CHECK.due("all as it was at the MARK", part.apply(x).equals(part.apply(y)), true);
            }
        }
    }

    private static ChosenRelays muchUsed() {
        ChosenRelays x = Meshes.of(Meshes.CHAIN + "jam 0 1 40;jam 0 1 1;off 3;every 3;hold 7;will 2 4;", 9);
        x.mark();
        return x;
    }

    private static void changeAll(ChosenRelays x) {
        x.turn(3, true);
        x.run(50, 77, 5);
        x.add(6);
        x.set(0, 1);
        x.set(1, 1);
        x.set(3, 2);
        x.set(2, 3);
        x.jam(2, 1, 60);
        x.will(0, 7);
        x.ear(0, 3, true);
        x.echo(0, 2, 9, 1);
        x.echo(0, 2, 8, 1);
    }
}
