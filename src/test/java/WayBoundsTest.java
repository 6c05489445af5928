/** The bounds of section 5: ROUTES, GOING, TRUTH, TOLD, BACKS and CUTS, sentence by sentence. */
public final class WayBoundsTest {
    private static final Check CHECK = new Check("WayBoundsTest");

    public static void main(String[] args) {
        nextOfTheFirstAndOfTheLast();
        theLeastNext();
        neverToItself();
        asFarAsItGoes();
        wayOfNoStep();
        lostBehindALongerWay();
        roundAsSoonAsCan();
        neitherTooLongNorTooShort();
        shorterThanInTruth();
        withoutRoutesNothingIsTooLong();
        toldOfNobody();
        notToldByOne();
        settledInHundredAndTwenty();
        mendedAtOnce();
        sureOfNothing();
        sureOfAll();
        busyInBetween();
        hellosFromOneToThirty();
        fewestStepsInTruth();
        backsOfNone();
        backsAtLeast();
        spinesOfThoseWhoAreOn();
        cutsOfTwoOthers();
        CHECK.end();
    }

    /** "NEXT: the NEIGHBOUR by whom it begins": in a star, without NOTICES, the middle, be it the first NODE or the last. */
    private static void nextOfTheFirstAndOfTheLast() {
        for (int nodes = 3; nodes <= 8; nodes++) {
            for (int middle = 0; middle < nodes; middle += nodes - 1) {
                StringBuilder text = new StringBuilder("nodes " + nodes + ";");
                for (int node = 0; node < nodes; node++) {
                    if (node != middle) {
                        text.append("air ").append(node).append(' ').append(middle).append(';');
                    }
                }
                ChosenRelays x = Meshes.of(text.toString(), 4);
                for (int from = 0; from < nodes; from++) {
                    for (int to = 0; to < nodes; to++) {
                        if (from != to) {
                            boolean near = from == middle || to == middle;
                            CHECK.due("route(" + from + ", " + to + ", 0) by " + middle, x.route(from, to, 0), near ? 1 : 2);
                            CHECK.due("route(" + from + ", " + to + ", 1) by " + middle, x.route(from, to, 1), near ? to : middle);
                        }
                    }
                }
            }
        }
    }

    /** "else the least NEXT of all those from whom it is one step more": at two steps, and at three. */
    private static void theLeastNext() {
        // 7 is behind 0, 3 and 6 alike, as 5 sees it
        ChosenRelays x = Meshes.of("nodes 8;air 5 0;air 5 3;air 5 6;air 7 0;air 7 3;air 7 6;", 6);
        CHECK.fine(x, "route(5, 7, 1)", x.route(5, 7, 1), 0);
        CHECK.fine(x, "route(7, 5, 1)", x.route(7, 5, 1), 0);
        CHECK.fine(x, "route(0, 6, 1)", x.route(0, 6, 1), 5);
        // a ring of six: 3 is three steps from 0 both ways
        x = Meshes.of("nodes 6;air 0 1;air 1 2;air 2 3;air 3 4;air 4 5;air 5 0;", 8);
        for (int from = 0; from < 6; from++) {
            int to = (from + 3) % 6;
            CHECK.fine(x, "route(" + from + ", " + to + ", 0)", x.route(from, to, 0), 3);
            CHECK.fine(x, "route(" + from + ", " + to + ", 1)", x.route(from, to, 1),
                Math.min((from + 1) % 6, (from + 5) % 6));
        }
    }

    /** "Never to itself": whatever it is told. */
    private static void neverToItself() {
        ChosenRelays x = Meshes.of("nodes 8;air 0 1;air 6 7;", 6);
        for (int other = 1; other < 8; other++) {
            x.echo(0, other, 0, 255);
        }
        CHECK.due("table(0)", x.table(0), 254);
        for (int other = 0; other < 7; other++) {
            x.echo(7, other, 0, 255);
        }
        CHECK.due("table(7)", x.table(7), 127);
        CHECK.refused(x, "route(7, 7, 0)", x.route(7, 7, 0), 3);
        CHECK.due("one step to its NEIGHBOUR still", x.route(0, 1, 0), 1);
        CHECK.due("two to all others", x.route(0, 7, 0), 2);
        CHECK.due("one who has no ROUTE to anybody", x.table(3), 0);
    }

    /** "as far as it goes": seven steps are the most; who was told of without a way to the teller is not reached. */
    private static void asFarAsItGoes() {
        ChosenRelays x = Meshes.of("nodes 8;air 0 1;hold 99;", 6);
        for (int i = 6; i >= 1; i--) {
            CHECK.due("table(0) without 1's TOPOLOGY", x.table(0), 2);
            x.echo(0, i, 0, 2 << i);
        }
        for (int i = 1; i < 8; i++) {
            CHECK.fine(x, "route(0, " + i + ", 0)", x.route(0, i, 0), i);
            CHECK.fine(x, "route(0, " + i + ", 1)", x.route(0, i, 1), 1);
        }
        x.echo(0, 3, 0, 0);
        CHECK.due("table(0) without 3's", x.table(0), 14);
        CHECK.refused(x, "route(0, 4, 0)", x.route(0, 4, 0), 7);
        // the other way round
        x = Meshes.of("nodes 8;air 7 6;hold 99;", 6);
        for (int i = 6; i >= 1; i--) {
            x.echo(7, i, 0, 1 << i - 1);
        }
        for (int i = 0; i < 7; i++) {
            CHECK.fine(x, "route(7, " + i + ", 0)", x.route(7, i, 0), 7 - i);
            CHECK.fine(x, "route(7, " + i + ", 1)", x.route(7, i, 1), 6);
        }
    }

    /** "LOST, if there is no ROUTE": at once. */
    private static void wayOfNoStep() {
        ChosenRelays x = Meshes.of("nodes 2;");
        int[] want = {1, 0, 0};
        for (int what = 0; what < 3; what++) {
            CHECK.fine(x, "goes(0, 1, " + what + ")", x.goes(0, 1, what), want[what]);
        }
        CHECK.fine(x, "goes(1, 0, 2)", x.goes(1, 0, 2), 1);
        CHECK.fine(x, "path(1, 0, 0)", x.path(1, 0, 0), 1);
        CHECK.refused(x, "path(1, 0, 1)", x.path(1, 0, 1), 7);
        CHECK.refused(x, "sure(0, 1)", x.sure(0, 1), 8);
        CHECK.fine(x, "astray(0)", x.astray(0), 2);
        CHECK.fine(x, "busy(0)", x.busy(0), 0);
    }

    private static void lostBehindALongerWay() {
        ChosenRelays x = Meshes.of("nodes 5;air 0 1;air 1 2;air 2 3;", 6);
        CHECK.fine(x, "goes(3, 0, 1)", x.goes(3, 0, 1), 3);
        CHECK.fine(x, "goes(3, 4, 1)", x.goes(3, 4, 1), 0);
        CHECK.fine(x, "goes(3, 4, 2)", x.goes(3, 4, 2), 3);
        CHECK.fine(x, "path(3, 0, 3)", x.path(3, 0, 3), 0);
        CHECK.refused(x, "path(3, 4, 1)", x.path(3, 4, 1), 7);
        CHECK.fine(x, "goes(4, 0, 1)", x.goes(4, 0, 1), 0);
        // the NEXT is OFF, or does not HEAR
        x.turn(1, false);
        CHECK.fine(x, "goes(3, 0, 0), 1 is OFF", x.goes(3, 0, 0), 1);
        CHECK.fine(x, "goes(3, 0, 1), 1 is OFF", x.goes(3, 0, 1), 1);
        CHECK.fine(x, "goes(3, 0, 2), 1 is OFF", x.goes(3, 0, 2), 2);
        CHECK.refused(x, "path(3, 0, 2), 1 is OFF", x.path(3, 0, 2), 7);
        x.turn(1, true);
        x.ear(3, 2, false);
        CHECK.fine(x, "goes(3, 0, 1), 2 does not HEAR 3", x.goes(3, 0, 1), 0);
        CHECK.fine(x, "goes(2, 3, 0), 3 HEARS 2", x.goes(2, 3, 0), 0);
    }

    /** "ROUND, if it comes to a NODE where it was": after two steps, where it began. */
    private static void roundAsSoonAsCan() {
        ChosenRelays x = Meshes.of("nodes 3;air 0 1;hold 99;", 6);
        x.echo(0, 1, 0, 4);
        x.echo(1, 0, 0, 4);
        int[] want = {2, 2, 0};
        for (int what = 0; what < 3; what++) {
            CHECK.fine(x, "goes(0, 2, " + what + ")", x.goes(0, 2, what), want[what]);
        }
        int[] path = {0, 1, 0};
        for (int i = 0; i < 3; i++) {
            CHECK.fine(x, "path(0, 2, " + i + ")", x.path(0, 2, i), path[i]);
        }
        CHECK.refused(x, "path(0, 2, 3)", x.path(0, 2, 3), 7);
        CHECK.fine(x, "astray(1)", x.astray(1), 2);
        CHECK.fine(x, "astray(0)", x.astray(0), 2);
        CHECK.refused(x, "sure(0, 2)", x.sure(0, 2), 8);

        // as late as can be: by all but one of eight, and back to the second
        x = Meshes.of("nodes 8;air 0 1;air 1 2;air 2 3;air 3 4;air 4 5;air 5 6;air 6 1;hold 99;", 12);
        for (int node = 0; node < 7; node++) {
            int next = node == 6 ? 1 : node + 1;
            x.echo(node, next, (x.topology(node, next, 1) + 1) % 16, 128);
        }
        CHECK.fine(x, "goes(0, 7, 0)", x.goes(0, 7, 0), 2);
        CHECK.fine(x, "goes(0, 7, 1)", x.goes(0, 7, 1), 7);
        CHECK.fine(x, "goes(0, 7, 2)", x.goes(0, 7, 2), 1);
        for (int i = 0; i < 8; i++) {
            CHECK.fine(x, "path(0, 7, " + i + ")", x.path(0, 7, i), i == 7 ? 1 : i);
        }
        CHECK.refused(x, "path(0, 7, 8)", x.path(0, 7, 8), 7);
        CHECK.fine(x, "goes(1, 7, 1)", x.goes(1, 7, 1), 6);
    }

    /** "TOLD: .. to just those to whom there is a way in TRUTH, all as short": longer, shorter, none, and one too many. */
    private static void neitherTooLongNorTooShort() {
        ChosenRelays x = Meshes.of(Meshes.CHAIN, 6);
        CHECK.due("told()", x.told(), 1);
        x.ear(0, 2, true);
        CHECK.due("one way only", x.told(), 1);
        x.ear(2, 0, true);
        CHECK.due("too long", x.told(), 0);
        CHECK.due("wrong(0, 1)", x.wrong(0, 1), 12);
        CHECK.due("wrong(1, 1)", x.wrong(1, 1), 0);
        x.ear(2, 0, false);
        CHECK.due("as it was", x.told(), 1);
        x.ear(2, 3, false);
        CHECK.due("no way", x.told(), 0);
        CHECK.due("wrong(0, 2)", x.wrong(0, 2), 8);
        x.turn(3, false);
        CHECK.due("still ROUTES to one who is OFF", x.told(), 0);
        CHECK.due("wrong(2, 2)", x.wrong(2, 2), 8);
        x.turn(3, true);
        x.ear(2, 3, true);
        CHECK.due("as it was", x.told(), 1);
        x.echo(1, 2, 2, 0);
        CHECK.due("1 is KNOWN to hear 3 still", x.told(), 1);
        x.echo(0, 2, 2, 0);
        CHECK.due("0 has no ROUTE to 3", x.told(), 0);
        CHECK.due("wrong(0, 0)", x.wrong(0, 0), 8);
    }

    /** A triangle of which one side is heard one way only: the ROUTE is shorter than the way in TRUTH. */
    private static void shorterThanInTruth() {
        ChosenRelays x = Meshes.of("nodes 3;air 0 1;air 1 2;air 2 0;", 8);
        x.ear(2, 0, false);
        CHECK.fine(x, "far(0, 2)", x.far(0, 2), 2);
        CHECK.fine(x, "route(0, 2, 0)", x.route(0, 2, 0), 1);
        CHECK.fine(x, "wrong(0, 2), no way as short", x.wrong(0, 2), 4);
        CHECK.fine(x, "wrong(0, 1), it is not longer", x.wrong(0, 1), 0);
        CHECK.fine(x, "wrong(0, 0)", x.wrong(0, 0), 0);
        CHECK.fine(x, "goes(0, 2, 0)", x.goes(0, 2, 0), 0);
        CHECK.fine(x, "astray(2), fewer steps than in TRUTH", x.astray(2), 0);
        CHECK.fine(x, "astray(0), 2 to 0", x.astray(0), 1);
        CHECK.fine(x, "told()", x.told(), 0);
        x.ear(1, 0, false);
        CHECK.fine(x, "wrong(0, 2), no way", x.wrong(0, 2), 6);
        CHECK.fine(x, "astray(2), without a way in TRUTH", x.astray(2), 2);
    }

    private static void withoutRoutesNothingIsTooLong() {
        ChosenRelays x = Meshes.of(Meshes.CHAIN);
        for (int node = 0; node < 4; node++) {
            CHECK.fine(x, "wrong(" + node + ", 0)", x.wrong(node, 0), 15 & ~(1 << node));
            CHECK.fine(x, "wrong(" + node + ", 1)", x.wrong(node, 1), 0);
            CHECK.fine(x, "wrong(" + node + ", 2)", x.wrong(node, 2), 0);
            CHECK.fine(x, "table(" + node + ")", x.table(node), 0);
        }
        CHECK.fine(x, "astray(0)", x.astray(0), 12);
        CHECK.fine(x, "astray(1)", x.astray(1), 0);
        CHECK.fine(x, "astray(2)", x.astray(2), 0);
    }

    private static void toldOfNobody() {
        CHECK.due("told() without NODES", new ChosenRelays().told(), 1);
        CHECK.due("settles() without NODES", new ChosenRelays().settles(), 0);
        CHECK.due("told() of one", Meshes.of("nodes 1;").told(), 1);
        CHECK.due("told() of two apart", Meshes.of("nodes 2;").told(), 1);
        CHECK.due("told() of two, one HEARS", Meshes.of("nodes 2;ear 0 1;").told(), 1);
        CHECK.due("told() of two", Meshes.of("nodes 2;air 0 1;").told(), 0);
        CHECK.due("told() of two, one is OFF", Meshes.of("nodes 2;air 0 1;off 1;").told(), 1);
        CHECK.due("settles() of two, one is OFF", Meshes.of("nodes 2;air 0 1;off 1;").settles(), 0);
        CHECK.due("settles() of two", Meshes.of("nodes 2;air 0 1;").settles(), 3);
        CHECK.due("settles() of three", Meshes.of("nodes 3;air 0 1;air 1 2;").settles(), 4);
    }

    /** One NODE that is not told, the first or the last, is enough. */
    private static void notToldByOne() {
        for (int node = 0; node < 4; node += 3) {
            ChosenRelays x = Meshes.of(Meshes.CHAIN, 6);
            x.echo(node, 2 - node / 3, 2, 0);
            CHECK.due("told(), but not " + node, x.told(), 0);
            x.turn(node, false);
            x.turn(3 - node, false);
            CHECK.due("told() by those left, who have ROUTES to those who are OFF", x.told(), 0);
            CHECK.due("settles() in spite of it", x.settles() > 0, true);
        }
    }

    /**
     * 2 does not hear 1 any more, but can't tell it for a JAM; so 1 tells that 2 chose it, at last in the TICK 63, and
     * 0 and 3 have that for 99 TICKS.
     */
    private static ChosenRelays staleFrom(int tick) {
        ChosenRelays x = Meshes.of("nodes 5;air 3 0;air 0 1;air 1 2;every 9;hold 99;", tick - 2);
        x.ear(1, 2, false);
        x.tick(2);
        x.jam(2, 1, 63 - tick + 3);
        x.set(3, 0);
        return x;
    }

    /** "In how many TICKS ON PAPER all is TOLD first (0: it is; 120 at most)". */
    private static void settledInHundredAndTwenty() {
        for (int tick = 40; tick <= 46; tick++) {
            int due = 63 + 99 - tick;
            ChosenRelays x = staleFrom(tick);
            if (due <= 120) {
                CHECK.fine(x, "settles() in " + due, x.settles(), due);
                CHECK.fine(x, "mends(4) in " + due, x.mends(4), due);
            } else {
                CHECK.refused(x, "settles() in " + due, x.settles(), 8);
                CHECK.refused(x, "mends(4) in " + due, x.mends(4), 8);
            }
            CHECK.due("the TICK", x.many(2), tick);
            x.tick(due - 1);
            CHECK.due("told() one TICK before", x.told(), 0);
            CHECK.fine(x, "settles() in 1", x.settles(), 1);
            x.tick(1);
            CHECK.due("told()", x.told(), 1);
            CHECK.fine(x, "settles() at once", x.settles(), 0);
        }
    }

    /** "if a NODE is OFF now, or, if it is, ON (0: at once; ..)". */
    private static void mendedAtOnce() {
        ChosenRelays x = Meshes.of("nodes 3;air 0 1;off 2;", 6);
        CHECK.due("told()", x.told(), 1);
        CHECK.fine(x, "mends(2), ON, whom nobody HEARS", x.mends(2), 0);
        CHECK.fine(x, "mends(0), OFF: 1 has a ROUTE for two TICKS", x.mends(0), 2);
        x.turn(0, false);
        CHECK.fine(x, "mends(0), ON again at once", x.mends(0), 0);
        CHECK.fine(x, "mends(1), all are OFF", x.mends(1), 0);
        x.tick(2);
        CHECK.fine(x, "mends(2)", x.mends(2), 0);
        CHECK.due("0 and 2 are OFF still", x.many(1), 2);
        CHECK.due("the TICK", x.many(2), 8);
    }

    /** A way by a LINK of QUALITY 0 is not likely at all, but it is one. */
    private static void sureOfNothing() {
        ChosenRelays x = Meshes.of("nodes 2;air 0 1;", 20);
        x.set(3, 0);
        x.jam(0, 1, 99);
        int[] want = {499, 249, 124, 62, 31, 15, 7, 3, 1, 0, 0};
        for (int quality : want) {
            x.tick(1);
            CHECK.fine(x, "sure(0, 1) with " + quality, x.sure(0, 1), 1000000L * quality / 999);
            CHECK.fine(x, "sure(1, 0)", x.sure(1, 0), 1000000);
        }
    }

    private static void sureOfAll() {
        ChosenRelays x = Meshes.of("nodes 8;air 0 1;air 1 2;air 2 3;air 3 4;air 4 5;air 5 6;air 6 7;", 30);
        CHECK.fine(x, "sure(0, 7)", x.sure(0, 7), 1000000);
        CHECK.fine(x, "sure(7, 0)", x.sure(7, 0), 1000000);
        // "step by step, from the first on, .. rounded down"
        x.run(1, 77, 4);
        long there = 1000000;
        long back = 1000000;
        for (int i = 0; i < 7; i++) {
            there = there * x.link(i + 1, i, 0) / 999;
            back = back * x.link(6 - i, 7 - i, 0) / 999;
        }
        CHECK.fine(x, "sure(0, 7)", x.sure(0, 7), there);
        CHECK.fine(x, "sure(7, 0)", x.sure(7, 0), back);
        CHECK.due("not the same", there == back, false);
    }

    /** "and comes by a NODE that is neither". */
    private static void busyInBetween() {
        ChosenRelays x = Meshes.of("nodes 2;air 0 1;", 6);
        CHECK.fine(x, "busy(0) of two", x.busy(0), 0);
        CHECK.fine(x, "busy(1) of two", x.busy(1), 0);
        x = Meshes.of("nodes 3;air 0 1;air 1 2;", 6);
        CHECK.fine(x, "busy(1) of three", x.busy(1), 2);
        CHECK.fine(x, "busy(0) of three", x.busy(0), 0);
        x.ear(1, 2, false);
        CHECK.fine(x, "busy(1), one of both is LOST", x.busy(1), 1);
    }

    /** "its next n HELLOS (1 to 30) .., bit 0 the next one". */
    private static void hellosFromOneToThirty() {
        ChosenRelays x = Meshes.of("nodes 2;");
        CHECK.fine(x, "one not heard", x.proves(0, 1, 0, 1, 0), 0);
        CHECK.fine(x, "one heard", x.proves(0, 1, 1, 1, 0), 500);
        CHECK.fine(x, "one, the second bit", x.proves(0, 1, 2, 1, 0), 0);
        CHECK.fine(x, "thirty heard", x.proves(0, 1, (1 << 30) - 1, 30, 0), 999);
        CHECK.fine(x, "thirty, the last heard alone", x.proves(0, 1, 1 << 29, 30, 0), 500);
        CHECK.fine(x, "29, the 30th heard alone", x.proves(0, 1, 1 << 29, 29, 0), 0);
        CHECK.fine(x, "thirty, the first heard alone", x.proves(0, 1, 1, 30, 0), 0);
        CHECK.fine(x, "ten, the first heard alone", x.proves(0, 1, 1, 9, 0), 1);
        CHECK.fine(x, "never UP", x.proves(0, 1, 0, 30, 2), 0);
        CHECK.fine(x, "once UP", x.proves(0, 1, (1 << 30) - 1, 30, 2), 1);
        CHECK.fine(x, "UP in the second", x.proves(0, 1, 3, 2, 1), 1);
        CHECK.fine(x, "not in the first", x.proves(0, 1, 3, 1, 1), 0);
        x.set(3, 500);
        x.set(2, 500);
        CHECK.fine(x, "by turns, each time UP and not", x.proves(0, 1, 0b0101, 4, 2), 4);
        CHECK.fine(x, "by turns, three", x.proves(0, 1, 0b0101, 3, 2), 3);
        CHECK.due("nothing was heard", x.link(0, 1, 0), 0);
        CHECK.refused(x, "no HELLO", x.proves(0, 1, 0, 0, 0), 1);
        CHECK.refused(x, "31 HELLOS", x.proves(0, 1, 0, 31, 0), 1);
    }

    private static void fewestStepsInTruth() {
        ChosenRelays x = Meshes.of("nodes 8;air 0 1;air 1 2;air 2 3;air 3 4;air 4 5;air 5 6;air 6 7;");
        for (int to = 1; to < 8; to++) {
            CHECK.fine(x, "far(0, " + to + ")", x.far(0, to), to);
            CHECK.fine(x, "far(" + to + ", 0)", x.far(to, 0), to);
        }
        x.ear(7, 0, true);
        CHECK.fine(x, "far(0, 7), one HEARS", x.far(0, 7), 7);
        x.ear(0, 7, true);
        CHECK.fine(x, "far(0, 7), both HEAR", x.far(0, 7), 1);
        CHECK.fine(x, "far(0, 4)", x.far(0, 4), 4);
        x.turn(4, false);
        CHECK.fine(x, "far(3, 5) the long way", x.far(3, 5), 6);
        x.turn(0, false);
        CHECK.refused(x, "far(3, 5), none", x.far(3, 5), 7);
        CHECK.refused(x, "far(3, 0)", x.far(3, 0), 4);
        CHECK.refused(x, "far(4, 0), both are OFF", x.far(4, 0), 4);
    }

    /** "1 if it is a BACK, else 0"; "(2; 0: there is none)". */
    private static void backsOfNone() {
        ChosenRelays x = new ChosenRelays();
        int[] want = {0, 1, 0};
        for (int what = 0; what < 3; what++) {
            CHECK.fine(x, "spine(" + what + ") without NODES", x.spine(what), want[what]);
        }
        x = Meshes.of("nodes 3;air 0 1;air 1 2;", 6);
        for (int node = 0; node < 3; node++) {
            x.turn(node, false);
        }
        for (int what = 0; what < 3; what++) {
            CHECK.fine(x, "spine(" + what + "), all are OFF", x.spine(what), want[what]);
        }
        x = Meshes.of("nodes 4;air 0 1;air 2 3;", 6);
        int[] apart = {0, 0, 0};
        for (int what = 0; what < 3; what++) {
            CHECK.fine(x, "spine(" + what + ") of two PAIRS apart", x.spine(what), apart[what]);
        }
        x.turn(0, false);
        CHECK.fine(x, "spine(2) of one and a PAIR", x.spine(2), 0);
        x.turn(1, false);
        CHECK.fine(x, "spine(2) of a PAIR", x.spine(2), 4);
        x.turn(2, false);
        CHECK.fine(x, "spine(2) of one", x.spine(2), 8);
        CHECK.fine(x, "spine(1) of one, who is no RELAY", x.spine(1), 0);
    }

    /** "the BACK with the fewest NODES, of as many the least". */
    private static void backsAtLeast() {
        for (int nodes = 1; nodes <= 8; nodes++) {
            StringBuilder chain = new StringBuilder("nodes " + nodes + ";");
            StringBuilder star = new StringBuilder("nodes " + nodes + ";");
            for (int node = 1; node < nodes; node++) {
                chain.append("air ").append(node - 1).append(' ').append(node).append(';');
                star.append("air ").append(node - 1).append(' ').append(nodes - 1).append(';');
            }
            int inner = nodes < 3 ? 1 : (1 << nodes - 1) - 2;
            CHECK.due("spine(2) of a chain of " + nodes, Meshes.of(chain.toString()).spine(2), inner);
            int middle = nodes < 3 ? 1 : 1 << nodes - 1;
            CHECK.due("spine(2) of a star of " + nodes, Meshes.of(star.toString()).spine(2), middle);
            int cut = nodes < 3 ? 0 : inner;
            CHECK.due("cuts() of a chain of " + nodes, Meshes.of(chain.toString()).cuts(), cut);
            CHECK.due("cuts() of a star of " + nodes, Meshes.of(star.toString()).cuts(), nodes < 3 ? 0 : middle);
        }
        // each PAIR of the ring is a BACK of two: 0 and 1 (3) the least
        CHECK.due("spine(2) of a ring of four", Meshes.of("nodes 4;air 0 1;air 1 3;air 3 2;air 2 0;").spine(2), 3);
        CHECK.due("spine(2) of all with all", Meshes.of("nodes 3;air 0 1;air 1 2;air 2 0;").spine(2), 1);
        CHECK.due("spine(2), the first is OFF", Meshes.of("nodes 4;air 1 2;air 2 3;air 3 1;off 0;").spine(2), 2);
    }

    /** "SPINE: all NODES that are ON and RELAYS of some NODE that is ON". */
    private static void spinesOfThoseWhoAreOn() {
        ChosenRelays x = Meshes.of("nodes 3;air 0 1;air 1 2;", 6);
        CHECK.fine(x, "spine(0)", x.spine(0), 2);
        CHECK.fine(x, "spine(1)", x.spine(1), 1);
        x.turn(0, false);
        CHECK.fine(x, "spine(0), 2 chose it", x.spine(0), 2);
        x.turn(2, false);
        CHECK.fine(x, "spine(0), nobody who is ON chose it", x.spine(0), 0);
        CHECK.fine(x, "spine(1)", x.spine(1), 0);
        x.turn(0, true);
        CHECK.fine(x, "spine(0), 0 chose it", x.spine(0), 2);
        x.turn(1, false);
        CHECK.fine(x, "spine(0), it is OFF", x.spine(0), 0);
        // those of SPINE are not a PAIR with each NODE, as PAIRS go both ways
        x.turn(1, true);
        x.turn(2, true);
        x.ear(1, 2, false);
        CHECK.fine(x, "spine(0)", x.spine(0), 2);
        CHECK.fine(x, "spine(1), 2 does not HEAR it", x.spine(1), 0);
    }

    /** "without whom two others that are ON, with a way in TRUTH, have none". */
    private static void cutsOfTwoOthers() {
        ChosenRelays x = Meshes.of("nodes 3;air 0 1;");
        CHECK.fine(x, "cuts() of two and one apart", x.cuts(), 0);
        x.ear(1, 2, true);
        CHECK.fine(x, "cuts(), one HEARS", x.cuts(), 0);
        x.ear(2, 1, true);
        CHECK.fine(x, "cuts() of three", x.cuts(), 2);
        x.turn(0, false);
        CHECK.fine(x, "cuts() of two left", x.cuts(), 0);
        x.turn(0, true);
        x.turn(1, false);
        CHECK.fine(x, "cuts(), it is OFF", x.cuts(), 0);
        x.turn(1, true);
        x.ear(0, 2, true);
        CHECK.fine(x, "cuts(), one HEARS round about", x.cuts(), 2);
        x.ear(2, 0, true);
        CHECK.fine(x, "cuts() of a ring", x.cuts(), 0);
    }
}
