/** Promises 10 to 16: relays. */
public final class RelaysTest {
    private static final Check CHECK = new Check("RelaysTest");
    /** Behind 0 are 4 (by 1 and 2) and 5 (by 2 and 3); WILL 4, 3, 1. */
    private static final String SPARE =
        "nodes 6;air 0 1;air 0 2;air 0 3;air 1 4;air 2 4;air 2 5;air 3 5;will 1 4;will 3 1;";

    public static void main(String[] args) {
        wouldByWill();
        wouldByWhoKnowsMost();
        spareOnesAreNone();
        onlyWillingOnesCount();
        picks();
        bestWills();
        leasts();
        covered();
        neededOnes();
        wasted();
        CHECK.end();
    }

    private static void wouldByWill() {
        ChosenRelays x = Meshes.of(Meshes.FAN, 4);
        CHECK.fine(x, "would(0)", x.would(0), 12);
        x.will(1, 4);
        CHECK.fine(x, "would(0), 1 is more willing than 2", x.would(0), 10);
        x.will(2, 7);
        CHECK.fine(x, "would(0), 2 is always one", x.would(0), 12);
        x.will(1, 7);
        CHECK.fine(x, "would(0), and 1 too", x.would(0), 14);
        CHECK.due("RELAYS are as they were", x.node(0, 6), 12);
        x.tick(1);
        CHECK.due("RELAYS in the next TICK", x.node(0, 6), 14);
        CHECK.refused(x, "would(7)", x.would(7), 2);
        CHECK.refused(x, "would(-1)", x.would(-1), 2);

        x = Meshes.of("nodes 3;air 0 1;air 0 2;air 1 2;will 1 7;", 6);
        CHECK.fine(x, "would(0), nobody behind", x.would(0), 2);
        x.will(1, 6);
        CHECK.fine(x, "would(0), nobody behind", x.would(0), 0);
    }

    private static void wouldByWhoKnowsMost() {
        // of 1 and 2 the least, if all is the same
        ChosenRelays x = Meshes.of("nodes 4;air 0 1;air 0 2;air 1 3;air 2 3;", 4);
        CHECK.fine(x, "would(0)", x.would(0), 2);
        CHECK.fine(x, "would(3)", x.would(3), 2);
        CHECK.fine(x, "would(1)", x.would(1), 1);
        // 2 knows most in all: it hears 4 too, who is no NODE BEHIND as 0 hears it
        x = Meshes.of("nodes 5;air 0 1;air 0 2;air 1 3;air 2 3;air 2 4;air 0 4;", 4);
        CHECK.fine(x, "would(0)", x.would(0), 4);
        // 3 knows two of those behind, 1 and 2 one each, but all know as many in all
        x = Meshes.of("nodes 6;air 0 1;air 0 2;air 0 3;air 1 4;air 2 5;air 3 4;air 3 5;air 1 2;", 4);
        CHECK.fine(x, "would(0)", x.would(0), 8);
        CHECK.fine(x, "pick(0, 0)", x.pick(0, 0), 3);
        x.will(2, 4);
        CHECK.fine(x, "pick(0, 0) by WILL", x.pick(0, 0), 2);
        CHECK.fine(x, "pick(0, 1) by how many are open", x.pick(0, 1), 1);
    }

    private static void spareOnesAreNone() {
        ChosenRelays x = Meshes.of(SPARE, 4);
        CHECK.fine(x, "would(0)", x.would(0), 4);
        CHECK.fine(x, "pick(0, 0)", x.pick(0, 0), 1);
        CHECK.fine(x, "pick(0, 1)", x.pick(0, 1), 2);
        x.will(1, 7);
        CHECK.fine(x, "would(0), 1 is always one", x.would(0), 6);
        x.will(3, 7);
        CHECK.fine(x, "would(0), 2 is not needed", x.would(0), 10);
        // the same with the spare one as the first and as the last of all
        x = Meshes.of("nodes 6;air 3 0;air 3 1;air 3 2;air 0 4;air 1 4;air 1 5;air 2 5;will 0 4;will 2 1;", 4);
        CHECK.fine(x, "pick(3, 0)", x.pick(3, 0), 0);
        CHECK.fine(x, "pick(3, 1)", x.pick(3, 1), 1);
        CHECK.fine(x, "would(3)", x.would(3), 2);
        x = Meshes.of("nodes 6;air 0 5;air 0 1;air 0 2;air 5 3;air 1 3;air 1 4;air 2 4;will 5 4;will 2 1;", 4);
        CHECK.fine(x, "pick(0, 0)", x.pick(0, 0), 5);
        CHECK.fine(x, "pick(0, 1)", x.pick(0, 1), 1);
        CHECK.fine(x, "would(0)", x.would(0), 2);
        // 1 and 2 lead to 5, 2 and 3 to 6: 2 goes, as it is less willing than 1
        x = Meshes.of("nodes 8;air 0 1;air 0 2;air 0 3;air 0 4;air 1 5;air 2 5;air 2 6;air 3 6;air 3 7;air 4 7;"
            + "will 1 5;will 2 4;will 4 2;", 4);
        for (int i = 0; i < 3; i++) {
            CHECK.fine(x, "pick(0, " + i + ")", x.pick(0, i), i + 1);
        }
        CHECK.fine(x, "would(0), the least willing first", x.would(0), 10);
        x.will(3, 6);
        CHECK.fine(x, "would(0), 3 is picked first", x.would(0), 10);
        CHECK.fine(x, "pick(0, 0)", x.pick(0, 0), 3);
    }

    private static void onlyWillingOnesCount() {
        ChosenRelays x = Meshes.of(Meshes.FAN, 4);
        x.will(3, 0);
        CHECK.due("BEHIND without 6", x.node(0, 5), 48);
        CHECK.fine(x, "would(0)", x.would(0), 4);
        x.will(2, 0);
        CHECK.due("BEHIND without 5", x.node(0, 5), 16);
        CHECK.fine(x, "would(0)", x.would(0), 2);
        x.will(1, 0);
        CHECK.due("nobody BEHIND", x.node(0, 5), 0);
        CHECK.fine(x, "would(0)", x.would(0), 0);
        CHECK.fine(x, "least(0)", x.least(0), 0);
        x.turn(0, false);
        x.will(1, 3);
        CHECK.fine(x, "would(0) that is OFF", x.would(0), 2);
    }

    private static void picks() {
        ChosenRelays x = Meshes.of(Meshes.FAN, 4);
        CHECK.fine(x, "pick(0, 0), 3 goes ahead of picking", x.pick(0, 0), 2);
        CHECK.refused(x, "pick(0, 1)", x.pick(0, 1), 7);
        CHECK.refused(x, "pick(0, 9)", x.pick(0, 9), 7);
        CHECK.refused(x, "pick(6, 0)", x.pick(6, 0), 7);
        CHECK.refused(x, "pick(0, -1)", x.pick(0, -1), 1);
        CHECK.refused(x, "pick(9, -1)", x.pick(9, -1), 1);
        CHECK.refused(x, "pick(7, 0)", x.pick(7, 0), 2);
    }

    private static void bestWills() {
        ChosenRelays x = Meshes.of("nodes 4;air 0 1;air 0 2;air 1 3;air 2 3;", 4);
        CHECK.fine(x, "bestWill(0) where it does not matter", x.bestWill(0), 0);
        x = Meshes.of(SPARE + "will 3 4;", 4);
        CHECK.due("would(0)", x.would(0), 10);
        CHECK.fine(x, "bestWill(2)", x.bestWill(2), 4);
        CHECK.due("WILL stays", x.node(2, 1), 3);
        x.turn(0, false);
        CHECK.fine(x, "bestWill(2), 0 is OFF", x.bestWill(2), 0);
        CHECK.refused(x, "bestWill(6)", x.bestWill(6), 2);
        CHECK.refused(x, "bestWill(-1)", x.bestWill(-1), 2);
    }

    private static void leasts() {
        ChosenRelays x = Meshes.of(Meshes.FAN, 4);
        CHECK.fine(x, "least(0)", x.least(0), 10);
        x.will(1, 0);
        CHECK.fine(x, "least(0), 1 is not willing", x.least(0), 12);
        x.will(1, 7);
        x.will(2, 7);
        CHECK.fine(x, "least(0) without always", x.least(0), 10);
        x = Meshes.of(SPARE, 4);
        CHECK.fine(x, "least(0)", x.least(0), 4);
        CHECK.refused(x, "least(6)", x.least(6), 2);
    }

    private static void covered() {
        ChosenRelays x = Meshes.of(Meshes.FAN, 4);
        int[] want = {0, 0, 16, 16, 48, 48, 48, 48, 96, 96, 112, 112, 112, 112, 112, 112};
        for (int set = 0; set < want.length; set++) {
            CHECK.fine(x, "covers(0, " + set + ")", x.covers(0, set), want[set]);
        }
        CHECK.fine(x, "covers(0, 112), no neighbours", x.covers(0, 112), 0);
        CHECK.fine(x, "covers(0, 127)", x.covers(0, 127), 112);
        x.will(2, 0);
        CHECK.fine(x, "covers(0, 4), one not willing counts", x.covers(0, 4), 48);
        x.will(3, 0);
        CHECK.fine(x, "covers(0, 12), but those behind are fewer", x.covers(0, 12), 16);
        CHECK.refused(x, "covers(0, 128)", x.covers(0, 128), 1);
        CHECK.refused(x, "covers(9, -1)", x.covers(9, -1), 1);
        CHECK.refused(x, "covers(7, 1)", x.covers(7, 1), 2);
    }

    private static void neededOnes() {
        ChosenRelays x = Meshes.of(Meshes.FAN, 4);
        CHECK.fine(x, "needed(0)", x.needed(0), 12);
        x = Meshes.of(Meshes.FAN + "will 1 7;will 2 7;", 4);
        CHECK.due("RELAYS of 0", x.node(0, 6), 14);
        CHECK.fine(x, "needed(0)", x.needed(0), 8);
        x.will(3, 0);
        CHECK.fine(x, "needed(0), 6 is not behind any more", x.needed(0), 0);
        CHECK.refused(x, "needed(7)", x.needed(7), 2);
    }

    private static void wasted() {
        ChosenRelays x = Meshes.of(Meshes.FAN, 4);
        CHECK.fine(x, "waste()", x.waste(), 0);
        x = Meshes.of("nodes 3;air 0 1;air 0 2;air 1 2;will 0 7;will 1 7;", 6);
        CHECK.fine(x, "waste(), all are neighbours", x.waste(), 4);
        x.turn(2, false);
        CHECK.fine(x, "waste() without 2", x.waste(), 2);
        x = Meshes.of("nodes 3;air 0 1;air 1 2;will 1 0;", 6);
        CHECK.fine(x, "waste(), nobody is behind", x.waste(), 0);
        x.will(1, 3);
        CHECK.fine(x, "waste() below 0", x.waste(), -2);
    }
}
