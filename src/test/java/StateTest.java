/** Promises 6 to 9: what there is. */
public final class StateTest {
    private static final Check CHECK = new Check("StateTest");

    public static void main(String[] args) {
        counts();
        nodes();
        links();
        linksOfLowBounds();
        linksOneWay();
        neighboursThatFade();
        nodesThatAreOff();
        topology();
        topologyThatGoes();
        CHECK.end();
    }

    private static void counts() {
        ChosenRelays x = Meshes.of(Meshes.CHAIN + "off 3;every 3;hold 50;");
        x.set(2, 800);
        x.set(3, 0);
        x.mark();
        x.mark();
        int[] want = {4, 7, 0, 3, 50, 0, 0, 0, 2, 800, 0};
        for (int what = 0; what < want.length; what++) {
            CHECK.fine(x, "many(" + what + ")", x.many(what), want[what]);
        }
        CHECK.refused(x, "many(-1)", x.many(-1), 1);
        CHECK.refused(x, "many(11)", x.many(11), 1);

        // every second tick from the 6th on, 1 and 2 send, each also sends on what the other sent
        x = Meshes.of(Meshes.CHAIN, 46);
        CHECK.due("NOTICES, more than 16", x.many(5), 42);
        CHECK.due("how often they were sent", x.many(6), 84);
        CHECK.due("the TICK", x.many(2), 46);
        CHECK.due("OLD", x.many(7), 0);
    }

    private static void nodes() {
        ChosenRelays x = Meshes.of(Meshes.CHAIN + "will 2 5;", 6);
        int[][] want = {
            {1, 3, 0, 2, 2, 4, 2, 0, 0, 2},
            {1, 3, 1, 5, 5, 8, 4, 5, 5, 5},
            {1, 5, 1, 10, 10, 1, 2, 10, 10, 10},
            {1, 3, 0, 4, 4, 2, 4, 0, 0, 4}};
        for (int node = 0; node < 4; node++) {
            for (int what = 0; what < 10; what++) {
                CHECK.fine(x, "node(" + node + ", " + what + ")", x.node(node, what), want[node][what]);
            }
        }
        x.turn(1, false);
        CHECK.due("node(1, 0) that is OFF", x.node(1, 0), 0);
        CHECK.due("node(1, 4) that is OFF", x.node(1, 4), 5);
        CHECK.refused(x, "node(0, 10)", x.node(0, 10), 1);
        CHECK.refused(x, "node(9, -1)", x.node(9, -1), 1);
        CHECK.refused(x, "node(4, 0)", x.node(4, 0), 2);
        CHECK.refused(x, "node(-1, 0)", x.node(-1, 0), 2);
    }

    private static void links() {
        ChosenRelays x = Meshes.of("nodes 2;air 0 1;");
        int[] qualities = {500, 750, 875, 937, 968, 984, 992, 996, 998, 999, 999};
        for (int i = 0; i < qualities.length; i++) {
            x.tick(1);
            CHECK.fine(x, "QUALITY " + i, x.link(0, 1, 0), qualities[i]);
            CHECK.due("UP " + i, x.link(0, 1, 1), i < 1 ? 0 : 1);
            CHECK.due("NEIGHBOUR " + i, x.link(0, 1, 2), i < 2 ? 0 : 1);
            CHECK.due("KNOWN " + i, x.link(0, 1, 3), i < 3 ? 0 : 1);
        }
        x.ear(1, 0, false);
        int[] falling = {499, 249, 124, 62, 31, 15, 7, 3, 1, 0, 0};
        for (int i = 0; i < falling.length; i++) {
            x.tick(1);
            CHECK.due("QUALITY falling " + i, x.link(0, 1, 0), falling[i]);
            CHECK.due("UP falling " + i, x.link(0, 1, 1), i < 1 ? 1 : 0);
            CHECK.due("NEIGHBOUR falling " + i, x.link(0, 1, 2), i < 1 ? 1 : 0);
            CHECK.due("KNOWN falling " + i, x.link(0, 1, 3), i < 1 ? 1 : 0);
        }
        CHECK.due("the other side still hears", x.link(1, 0, 1), 1);
        CHECK.due("but is not told among UP LINKS", x.link(1, 0, 2), 0);

        x = Meshes.of(Meshes.CHAIN + "jam 0 1 7;", 6);
        CHECK.due("JAM from 0 to 1", x.link(1, 0, 5), 1);
        CHECK.due("JAM from 1 to 0", x.link(0, 1, 5), 0);
        x = Meshes.of(Meshes.CHAIN, 6);
        CHECK.due("2 chose 1", x.link(1, 2, 4), 1);
        CHECK.due("0 was chosen of nobody", x.link(0, 1, 4), 0);
        CHECK.due("no link", x.link(0, 3, 0), 0);
        CHECK.refused(x, "link(0, 1, 6)", x.link(0, 1, 6), 1);
        CHECK.refused(x, "link(4, 4, -1)", x.link(4, 4, -1), 1);
        CHECK.refused(x, "link(4, 4, 0)", x.link(4, 4, 0), 2);
        CHECK.refused(x, "link(0, 4, 0)", x.link(0, 4, 0), 2);
        CHECK.refused(x, "link(-1, 0, 0)", x.link(-1, 0, 0), 2);
        CHECK.refused(x, "link(2, 2, 0)", x.link(2, 2, 0), 3);
    }

    private static void linksOfLowBounds() {
        ChosenRelays x = Meshes.of("nodes 2;air 0 1;");
        x.set(3, 250);
        x.set(2, 500);
        x.tick(1);
        CHECK.due("UP at just RISE", x.link(0, 1, 1), 1);
        x.ear(1, 0, false);
        x.tick(1);
        CHECK.due("QUALITY", x.link(0, 1, 0), 250);
        CHECK.due("UP at just FALL", x.link(0, 1, 1), 1);
        x.set(3, 126);
        x.tick(1);
        CHECK.due("not UP below FALL", x.link(0, 1, 1), 0);
        x.set(3, 0);
        x.set(2, 1);
        x.tick(1);
        CHECK.due("UP with a RISE of 1", x.link(0, 1, 1), 1);
        x.tick(60);
        CHECK.due("never below a FALL of 0", x.link(0, 1, 1), 1);
        CHECK.due("QUALITY 0", x.link(0, 1, 0), 0);
    }

    private static void linksOneWay() {
        ChosenRelays x = Meshes.of("nodes 3;ear 0 1;air 1 2;", 20);
        CHECK.due("1 hears 0: UP", x.node(1, 3), 5);
        CHECK.due("but 0 is no NEIGHBOUR", x.node(1, 4), 4);
        CHECK.due("0 hears nobody", x.node(0, 3), 0);
        CHECK.due("2 knows 1", x.node(2, 4), 2);
        CHECK.due("nobody is behind", x.node(2, 5), 0);
    }

    /** A HELLO that is not heard leaves a NEIGHBOUR and what is KNOWN, as long as the LINK is UP. */
    private static void neighboursThatFade() {
        ChosenRelays x = Meshes.of(Meshes.CHAIN, 8);
        x.jam(2, 1, 9);
        x.tick(1);
        CHECK.due("2 stays a NEIGHBOUR", x.link(1, 2, 2), 1);
        CHECK.due("KNOWN of it", x.link(1, 2, 3), 10);
        CHECK.due("CHOOSER", x.link(1, 2, 4), 1);
        CHECK.due("RELAYS", x.node(1, 6), 4);
        x.tick(1);
        CHECK.due("2 is none any more", x.link(1, 2, 2), 0);
        CHECK.due("KNOWN of it", x.link(1, 2, 3), 0);
        CHECK.due("no CHOOSER", x.link(1, 2, 4), 0);
        CHECK.due("no RELAYS", x.node(1, 6), 0);
        CHECK.due("2 hears 1 still", x.link(2, 1, 2), 1);
        x.tick(1);
        CHECK.due("2 is told that it is not heard", x.link(2, 1, 2), 0);
        CHECK.due("but its LINK is UP", x.link(2, 1, 1), 1);
    }

    private static void nodesThatAreOff() {
        ChosenRelays x = Meshes.of(Meshes.CHAIN, 6);
        x.turn(1, false);
        x.jam(2, 1, 3);
        int quality = x.link(1, 0, 0);
        int left = x.topology(1, 2, 2);
        x.tick(20);
        CHECK.due("QUALITY of one who is OFF", x.link(1, 0, 0), quality);
        CHECK.due("its NEIGHBOURS", x.node(1, 4), 5);
        CHECK.due("its RELAYS", x.node(1, 6), 4);
        CHECK.due("its CHOOSERS", x.node(1, 7), 5);
        CHECK.due("its TOPOLOGY", x.topology(1, 2, 2), left);
        CHECK.due("the JAM to it", x.link(1, 2, 5), 0);
        CHECK.due("those who heard it", x.node(0, 3), 0);
        CHECK.due("those who heard it", x.node(2, 4), 8);
        CHECK.due("others' TOPOLOGY", x.topology(0, 2, 0), -1);
    }

    private static void topology() {
        ChosenRelays x = Meshes.of(Meshes.CHAIN + "hold 9;", 6);
        CHECK.fine(x, "topology(0, 2, 0)", x.topology(0, 2, 0), 10);
        CHECK.fine(x, "topology(0, 2, 1)", x.topology(0, 2, 1), 1);
        CHECK.fine(x, "topology(0, 2, 2)", x.topology(0, 2, 2), 9);
        x.tick(1);
        CHECK.fine(x, "topology(0, 2, 2)", x.topology(0, 2, 2), 8);
        x.tick(1);
        CHECK.fine(x, "topology(0, 2, 2) told anew", x.topology(0, 2, 2), 9);
        CHECK.due("topology(0, 2, 1) told anew", x.topology(0, 2, 1), 1);
        CHECK.refused(x, "topology(0, 3, 0)", x.topology(0, 3, 0), 7);
        CHECK.refused(x, "topology(0, 2, 3)", x.topology(0, 2, 3), 1);
        CHECK.refused(x, "topology(4, 4, -1)", x.topology(4, 4, -1), 1);
        CHECK.refused(x, "topology(4, 4, 0)", x.topology(4, 4, 0), 2);
        CHECK.refused(x, "topology(0, -1, 0)", x.topology(0, -1, 0), 2);
        CHECK.refused(x, "topology(3, 3, 0)", x.topology(3, 3, 0), 3);
    }

    private static void topologyThatGoes() {
        ChosenRelays x = Meshes.of("nodes 3;hold 3;");
        x.echo(0, 1, 5, 4);
        CHECK.fine(x, "topology(0, 1, 2)", x.topology(0, 1, 2), 3);
        x.tick(2);
        CHECK.fine(x, "topology(0, 1, 2)", x.topology(0, 1, 2), 1);
        CHECK.fine(x, "topology(0, 1, 0)", x.topology(0, 1, 0), 4);
        CHECK.due("older ones are not taken in", x.echo(0, 1, 4, 0), 0);
        x.tick(1);
        CHECK.refused(x, "topology(0, 1, 0) that is gone", x.topology(0, 1, 0), 7);
        CHECK.due("with it goes its NUMBER", x.echo(0, 1, 4, 0), 1);
        CHECK.fine(x, "topology(0, 1, 0) of nobody", x.topology(0, 1, 0), 0);

        x = Meshes.of(Meshes.CHAIN + "hold 1;every 1;", 9);
        CHECK.fine(x, "topology(0, 2, 2) with a HOLD of 1", x.topology(0, 2, 2), 1);
    }
}
