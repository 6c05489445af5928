/** The bounds of sections 2 to 4, and of what is done, sentence by sentence. */
public final class TickBoundsTest {
    private static final Check CHECK = new Check("TickBoundsTest");
    private static final String PAIR = "nodes 2;air 0 1;";
    private static final int[] RISING = {500, 750, 875, 937, 968, 984, 992, 996, 998, 999, 999, 999};
    private static final int[] FALLING = {499, 249, 124, 62, 31, 15, 7, 3, 1, 0, 0, 0};

    public static void main(String[] args) {
        qualityUpAndDown();
        upFromRiseOn();
        notUpBelowFall();
        betweenAsItWas();
        riseThatIsFall();
        settingsAtTheirBounds();
        allAsTheTickBegins();
        neighbourAtOnceIfUpNow();
        heardButNotTold();
        notHeardButUp();
        jamsOfOneTick();
        jamsGoByInEachTick();
        everyDividesTheTick();
        whoSends();
        allAreOff();
        CHECK.end();
    }

    /** "as much more as half of what 999 is above it, rounded up; if not, half of what it was, rounded down". */
    private static void qualityUpAndDown() {
        ChosenRelays x = Meshes.of(PAIR);
        CHECK.due("QUALITY at first", x.link(0, 1, 0), 0);
        for (int quality : RISING) {
            x.tick(1);
            CHECK.due("QUALITY heard", x.link(0, 1, 0), quality);
        }
        x.jam(1, 0, 99);
        for (int quality : FALLING) {
            x.tick(1);
            CHECK.due("QUALITY not heard", x.link(0, 1, 0), quality);
        }
        CHECK.due("QUALITY the other way", x.link(1, 0, 0), 999);
        // by turns: 0, then up and down from each
        int[] by = {500, 250, 625, 312, 656, 328, 664, 332};
        for (int n = 1; n <= by.length; n++) {
            CHECK.due("QUALITY by turns " + n, x.proves(0, 1, 0b01010101, n, 0), by[n - 1]);
        }
        int[] turned = {499, 749, 374, 687, 343, 671};
        for (int n = 1; n <= turned.length; n++) {
            CHECK.due("QUALITY by turns from 999, " + n, x.proves(1, 0, 0b101010, n, 0), turned[n - 1]);
        }
    }

    /** "The LINK is UP from RISE on". */
    private static void upFromRiseOn() {
        for (int n = 1; n <= 10; n++) {
            int quality = RISING[n - 1];
            ChosenRelays x = Meshes.of(PAIR);
            x.set(2, quality);
            CHECK.due("RISE " + quality + " one HELLO before", n == 1 ? 0 : x.proves(0, 1, -1, n - 1, 1), 0);
            CHECK.due("RISE " + quality, x.proves(0, 1, -1, n, 1), 1);
            x.tick(n - 1 > 0 ? n - 1 : 1);
            CHECK.due("RISE " + quality + " one TICK before", x.link(0, 1, 1), n == 1 ? 1 : 0);
            x.tick(1);
            CHECK.due("RISE " + quality + " in its TICK", x.link(0, 1, 1), 1);
            if (quality < 999) {
                x = Meshes.of(PAIR);
                x.set(2, quality + 1);
                CHECK.due("RISE " + (quality + 1), x.proves(0, 1, -1, n, 1), 0);
                x.tick(n);
                CHECK.due("RISE " + (quality + 1) + " in the TICK of one less", x.link(0, 1, 1), 0);
            }
        }
    }

    /** "not UP below FALL". */
    private static void notUpBelowFall() {
        for (int n = 1; n <= 10; n++) {
            int quality = FALLING[n - 1];
            ChosenRelays x = Meshes.of(PAIR, 20);
            x.set(3, quality);
            CHECK.due("FALL " + quality, x.proves(0, 1, 0, n, 1), 1);
            CHECK.due("FALL " + quality + " one HELLO more", x.proves(0, 1, 0, n + 1, 1), quality == 0 ? 1 : 0);
            x.set(3, quality + 1);
            CHECK.due("FALL " + (quality + 1), x.proves(0, 1, 0, n, 1), 0);
            x.jam(1, 0, 99);
            x.tick(n);
            CHECK.due("FALL " + (quality + 1) + " in its TICK", x.link(0, 1, 1), 0);
            CHECK.due("no NEIGHBOUR any more", x.link(0, 1, 2), 0);

            x = Meshes.of(PAIR, 20);
            x.set(3, quality);
            x.jam(1, 0, 99);
            x.tick(n);
            CHECK.due("FALL " + quality + " in its TICK", x.link(0, 1, 1), 1);
            CHECK.due("a NEIGHBOUR still", x.link(0, 1, 2), 1);
            x.tick(60);
            CHECK.due("with a FALL of 0 for good", x.link(0, 1, 1), quality == 0 ? 1 : 0);
        }
    }

    /** "between as it was": UP or not. */
    private static void betweenAsItWas() {
        ChosenRelays x = Meshes.of(PAIR);
        x.tick(1);
        CHECK.due("500, was not UP", x.link(0, 1, 1), 0);
        x.tick(1);
        CHECK.due("750", x.link(0, 1, 1), 1);
        x.jam(1, 0, 1);
        x.tick(1);
        CHECK.due("375, was UP", x.link(0, 1, 1), 1);
        CHECK.due("QUALITY", x.link(0, 1, 0), 375);
        x.tick(1);
        CHECK.due("687, was UP", x.link(0, 1, 1), 1);
        CHECK.due("QUALITY", x.link(0, 1, 0), 687);
        x.jam(1, 0, 2);
        x.tick(2);
        CHECK.due("171", x.link(0, 1, 1), 0);
        x.tick(1);
        CHECK.due("585, was not UP", x.link(0, 1, 1), 0);
        CHECK.due("QUALITY", x.link(0, 1, 0), 585);
        // RISE above and FALL below what it is now change nothing until the next TICK
        x.set(2, 585);
        CHECK.due("585 with a RISE of 585", x.link(0, 1, 1), 0);
        x.set(2, 793);
        x.tick(1);
        CHECK.due("792 with a RISE of 793", x.link(0, 1, 1), 0);
    }

    /** "FALL (0 to RISE": nothing is between then. */
    private static void riseThatIsFall() {
        ChosenRelays x = Meshes.of(PAIR);
        x.set(2, 500);
        CHECK.fine(x, "set(3, 500)", x.set(3, 500), 300);
        x.tick(1);
        CHECK.due("UP at RISE and FALL", x.link(0, 1, 1), 1);
        x.jam(1, 0, 1);
        x.tick(1);
        CHECK.due("not UP below both", x.link(0, 1, 1), 0);
        x.tick(1);
        CHECK.due("QUALITY", x.link(0, 1, 0), 625);
        CHECK.due("UP above both", x.link(0, 1, 1), 1);
    }

    /** "EVERY (1 to 9), HOLD (1 to 99), RISE (1 to 999; not below FALL), FALL (0 to RISE)", "what it was". */
    private static void settingsAtTheirBounds() {
        int[] least = {1, 1, 300, 0};
        int[] most = {9, 99, 999, 700};
        int[] without = {2, 6, 700, 300};
        int[] many = {3, 4, 9, 10};
        for (int what = 0; what < 4; what++) {
            ChosenRelays x = Meshes.of(PAIR);
            CHECK.fine(x, "the least of " + what, x.set(what, least[what]), without[what]);
            CHECK.fine(x, "many", x.many(many[what]), least[what]);
            CHECK.refused(x, "one less of " + what, x.set(what, least[what] - 1), 1);
            CHECK.fine(x, "the most of " + what, x.set(what, most[what]), least[what]);
            CHECK.refused(x, "one more of " + what, x.set(what, most[what] + 1), 1);
            CHECK.fine(x, "many", x.many(many[what]), most[what]);
            CHECK.fine(x, "the same of " + what, x.set(what, most[what]), most[what]);
            for (int other = 0; other < 4; other++) {
                CHECK.due("another", x.many(many[other]), other == what ? most[what] : without[other]);
            }
        }
        ChosenRelays x = Meshes.of(PAIR);
        x.set(3, 0);
        CHECK.fine(x, "RISE 1 above a FALL of 0", x.set(2, 1), 700);
        CHECK.refused(x, "RISE 0 with a FALL of 0", x.set(2, 0), 1);
        CHECK.refused(x, "FALL 2 above a RISE of 1", x.set(3, 2), 1);
        CHECK.fine(x, "FALL 1 with a RISE of 1", x.set(3, 1), 0);
        CHECK.fine(x, "RISE 1 with a FALL of 1", x.set(2, 1), 1);
        CHECK.fine(x, "RISE 999", x.set(2, 999), 1);
        CHECK.fine(x, "FALL 999 with a RISE of 999", x.set(3, 999), 1);
        CHECK.refused(x, "RISE 998 below FALL", x.set(2, 998), 1);
        CHECK.refused(x, "FALL 1000", x.set(3, 1000), 1);
    }

    /** "all as the TICK begins": what a chain has is the same from both its ends, whoever hears first. */
    private static void allAsTheTickBegins() {
        ChosenRelays x = Meshes.of("nodes 4;air 0 1;air 1 2;air 2 3;every 1;");
        for (int tick = 1; tick <= 7; tick++) {
            x.tick(1);
            for (int node = 0; node < 2; node++) {
                for (int what = 3; what < 9; what++) {
                    CHECK.due("in TICK " + tick + ", mirrored, node(" + node + ", " + what + ")",
                        mirrored(x.node(3 - node, what)), x.node(node, what));
                }
                int other = node + 1;
                for (int what = 0; what < 5; what++) {
                    int there = x.link(3 - node, 3 - other, what);
                    CHECK.due("in TICK " + tick + ", mirrored, link(" + node + ", " + other + ", " + what + ")",
                        what == 3 ? mirrored(there) : there, x.link(node, other, what));
                }
            }
        }
        // UP in 2, NEIGHBOURS in 3, KNOWN and RELAYS in 4, CHOOSERS in 5, not sooner
        int[][] when = {{3, 2, 5}, {4, 3, 5}, {5, 4, 8}, {6, 4, 4}, {7, 5, 5}};
        for (int[] one : when) {
            ChosenRelays y = Meshes.of(Meshes.CHAIN, one[1]);
            CHECK.due("node(1, " + one[0] + ")", y.node(1, one[0]), one[2]);
            y = Meshes.of(Meshes.CHAIN, one[1] - 1);
            CHECK.due("node(1, " + one[0] + ") one TICK before", y.node(1, one[0]), 0);
        }
    }

    private static int mirrored(int set) {
        int other = 0;
        for (int node = 0; node < 4; node++) {
            other |= (set >> node & 1) << 3 - node;
        }
        return other;
    }

    /** "a NEIGHBOUR just if the LINK is UP (now) and the HELLO tells this one among its UP LINKS". */
    private static void neighbourAtOnceIfUpNow() {
        ChosenRelays x = Meshes.of(PAIR, 20);
        x.jam(1, 0, 3);
        int[][] want = {{499, 1, 1, 1}, {249, 0, 0, 0}, {124, 0, 0, 0}, {562, 0, 0, 0}, {781, 1, 1, 0}, {890, 1, 1, 0},
            {945, 1, 1, 1}};
        for (int i = 0; i < want.length; i++) {
            x.tick(1);
            for (int what = 0; what < 4; what++) {
                CHECK.due("TICK " + (21 + i) + ", link(0, 1, " + what + ")", x.link(0, 1, what), want[i][what]);
            }
            // 1 is told in 23 that 0 does not hear it any more, in 26 that it does
            CHECK.due("TICK " + (21 + i) + ", link(1, 0, 2)", x.link(1, 0, 2), i < 2 || i > 4 ? 1 : 0);
            CHECK.due("TICK " + (21 + i) + ", link(1, 0, 1)", x.link(1, 0, 1), 1);
        }
    }

    /** One who is heard, and UP, but does not tell this one, is no NEIGHBOUR, nothing is KNOWN, no CHOOSER. */
    private static void heardButNotTold() {
        ChosenRelays x = Meshes.of("nodes 3;air 0 1;air 1 2;", 10);
        CHECK.due("2 chose 1", x.link(1, 2, 4), 1);
        x.ear(1, 2, false);
        x.tick(2);
        CHECK.due("2's LINK is not UP", x.link(2, 1, 1), 0);
        CHECK.due("1 was told that it is", x.link(1, 2, 2), 1);
        CHECK.due("and is chosen", x.link(1, 2, 4), 1);
        x.tick(1);
        CHECK.due("UP", x.link(1, 2, 1), 1);
        CHECK.due("no NEIGHBOUR", x.link(1, 2, 2), 0);
        CHECK.due("nothing KNOWN", x.link(1, 2, 3), 0);
        CHECK.due("no CHOOSER", x.link(1, 2, 4), 0);
    }

    /** "If not heard: it is no NEIGHBOUR any more if the LINK is not UP": else all stays. */
    private static void notHeardButUp() {
        ChosenRelays x = Meshes.of("nodes 3;air 0 1;air 1 2;", 10);
        x.set(3, 0);
        x.ear(2, 1, false);
        x.ear(1, 2, false);
        x.tick(60);
        for (int what = 0; what < 5; what++) {
            CHECK.due("link(1, 2, " + what + ") with a FALL of 0", x.link(1, 2, what), new int[] {0, 1, 1, 2, 1}[what]);
        }
        x.set(3, 1);
        x.tick(1);
        for (int what = 0; what < 5; what++) {
            CHECK.due("link(1, 2, " + what + ") with a FALL of 1", x.link(1, 2, what), 0);
        }
    }

    /** "there is no JAM from that one to it", "Each JAM lasts one TICK less": of 1, it lasts one TICK. */
    private static void jamsOfOneTick() {
        for (int ticks = 0; ticks <= 3; ticks++) {
            ChosenRelays x = Meshes.of(PAIR, 20);
            CHECK.fine(x, "jam(0, 1, " + ticks + ")", x.jam(0, 1, ticks), 0);
            for (int i = 0; i < 4; i++) {
                CHECK.due("JAM " + ticks + " ahead of TICK " + i, x.link(1, 0, 5), Math.max(0, ticks - i));
                int was = x.link(1, 0, 0);
                x.tick(1);
                CHECK.due("heard behind JAM " + ticks, x.link(1, 0, 0) >= was, i >= ticks);
            }
            CHECK.due("the other way", x.link(0, 1, 0), 999);
        }
        ChosenRelays x = Meshes.of(PAIR);
        CHECK.fine(x, "jam(1, 0, 99)", x.jam(1, 0, 99), 0);
        x.tick(98);
        CHECK.due("the 98th", x.link(0, 1, 5), 1);
        x.tick(1);
        CHECK.due("the 99th", x.link(0, 1, 5), 0);
        CHECK.due("nothing was heard", x.link(0, 1, 0), 0);
        x.tick(1);
        CHECK.due("the 100th TICK", x.link(0, 1, 0), 500);
        CHECK.due("no JAM below 0", x.link(0, 1, 5), 0);
    }

    /** A JAM goes by for those who are OFF or do not hear, too. */
    private static void jamsGoByInEachTick() {
        ChosenRelays x = Meshes.of("nodes 8;off 0;off 1;jam 0 1 5;jam 1 0 4;jam 7 6 3;jam 2 0 2;jam 0 7 1;every 9;");
        int[][] jams = {{1, 0, 5}, {0, 1, 4}, {6, 7, 3}, {0, 2, 2}, {7, 0, 1}};
        for (int tick = 1; tick <= 6; tick++) {
            x.tick(1);
            for (int[] jam : jams) {
                CHECK.due("JAM in TICK " + tick, x.link(jam[0], jam[1], 5), Math.max(0, jam[2] - tick));
            }
        }
    }

    /** "If EVERY divides the TICK". */
    private static void everyDividesTheTick() {
        for (int every = 1; every <= 9; every++) {
            ChosenRelays x = Meshes.of("nodes 3;air 0 1;air 1 2;every " + every + ";");
            int sent = 0;
            for (int tick = 1; tick <= 20; tick++) {
                x.tick(1);
                sent += tick >= 5 && tick % every == 0 ? 1 : 0;
                CHECK.due("EVERY " + every + ", NOTICES in TICK " + tick, x.many(5), sent);
            }
            CHECK.due("TICK of the latest", x.notice(0, 0), 20 - 20 % every);
        }
        // it counts the TICKS of the mesh, not those since it was set
        ChosenRelays x = Meshes.of("nodes 3;air 0 1;air 1 2;", 7);
        x.set(0, 5);
        x.tick(2);
        CHECK.due("none in 8 and 9", x.notice(0, 0), 6);
        x.tick(1);
        CHECK.due("one in 10", x.notice(0, 0), 10);
    }

    /** "each NODE that is ON and has CHOOSERS, in turn, sends a NOTICE". */
    private static void whoSends() {
        ChosenRelays x = Meshes.of(Meshes.CHAIN + "every 1;", 8);
        CHECK.due("CHOOSERS of 0", x.node(0, 7), 0);
        CHECK.due("the latest", x.notice(0, 1), 2);
        CHECK.due("ahead of it", x.notice(1, 1), 1);
        CHECK.due("in the same TICK", x.notice(1, 0), 8);
        CHECK.due("nobody else", x.notice(2, 0), 7);
        int before = x.many(5);
        x.turn(2, false);
        x.tick(1);
        CHECK.due("2 has CHOOSERS still", x.node(2, 7), 10);
        CHECK.due("but is OFF: one NOTICE", x.many(5), before + 1);
        CHECK.due("of 1", x.notice(0, 1), 1);
        // the LINK to 2 goes in the next TICK; 0 chooses 1 no more, as 1 tells no more of 2
        x.tick(3);
        CHECK.due("1 has no CHOOSERS", x.node(1, 7), 0);
        int then = x.many(5);
        x.tick(5);
        CHECK.due("no NOTICES", x.many(5), then);
    }

    /** "A NODE that is OFF neither hears nor sends; what it has stays as it is." */
    private static void allAreOff() {
        String text = Meshes.CHAIN + "hold 2;every 1;";
        ChosenRelays x = Meshes.of(text, 8);
        ChosenRelays y = Meshes.of(text, 8);
        for (int node = 0; node < 4; node++) {
            x.turn(node, false);
            y.turn(node, false);
        }
        x.tick(200);
        CHECK.due("the TICK", x.many(2), 208);
        CHECK.due("NOTICES", x.many(5), y.many(5));
        for (int node = 0; node < 4; node++) {
            for (int what = 0; what < 10; what++) {
                CHECK.due("node(" + node + ", " + what + ")", x.node(node, what), y.node(node, what));
            }
            for (int other = 0; other < 4; other++) {
                for (int what = 0; what < 6; what++) {
                    CHECK.due("link", x.link(node, other, what), y.link(node, other, what));
                    CHECK.due("topology", x.topology(node, other, what % 3), y.topology(node, other, what % 3));
                }
            }
        }
        CHECK.due("TOPOLOGY does not go", x.topology(0, 2, 2), 2);
        x.run(200, 9999, 16);
        CHECK.due("nothing is lost", x.run(1, 1, 16), 0);
    }
}
