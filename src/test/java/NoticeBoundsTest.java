/** The bounds of sections 3 and 4, of NOTICES, draws and MARKS, sentence by sentence. */
public final class NoticeBoundsTest {
    private static final Check CHECK = new Check("NoticeBoundsTest");
    private static final String THREE = "nodes 3;air 0 1;air 1 2;";

    public static void main(String[] args) {
        willsOfNoneAndOfSeven();
        behindIsNeitherItselfNorANeighbour();
        aloneOfAllWilling();
        neededFromTheFirstToTheLast();
        picksAndNoMore();
        willsThatAreBest();
        leastOfAsMany();
        moreOrFewerThanLeast();
        setsOfNodesThatThereAre();
        numbersOneByOne();
        theSameChoosersAgain();
        olderByAllNumbers();
        oldOnesAreGotToo();
        topologyOfHold();
        topologyOfEachGoes();
        holdFromNowOn();
        blindOnesGoFurther();
        theLatestSixteen();
        drawsAtTheirBounds();
        drawsInThatOrder();
        runsAtTheirBounds();
        lossesEndWithTheRun();
        marksAtMostFour();
        CHECK.end();
    }

    /** "WILLING of a NODE: its NEIGHBOURS of a WILL above 0", "first all WILLING ones of WILL 7", "of a WILL below 7". */
    private static void willsOfNoneAndOfSeven() {
        ChosenRelays x = Meshes.of(Meshes.CHAIN, 6);
        for (int will = 0; will <= 7; will++) {
            x.will(1, will);
            CHECK.fine(x, "would(0), WILL " + will, x.would(0), will == 0 ? 0 : 2);
            CHECK.fine(x, "BEHIND 0, WILL " + will, x.node(0, 5), will == 0 ? 0 : 4);
            CHECK.fine(x, "least(0), WILL " + will, x.least(0), will == 0 ? 0 : 2);
            CHECK.fine(x, "NEIGHBOURS of 0", x.node(0, 4), 2);
        }
        // nobody is BEHIND: one of WILL 7 is a RELAY, one of WILL 6 is none
        x = Meshes.of("nodes 3;air 0 1;air 0 2;air 1 2;", 6);
        for (int will = 0; will <= 7; will++) {
            x.will(1, will);
            CHECK.fine(x, "would(0), nobody BEHIND, WILL " + will, x.would(0), will == 7 ? 2 : 0);
            CHECK.fine(x, "least(0), nobody BEHIND, WILL " + will, x.least(0), 0);
        }
        // 1 and 2 lead to 3: the other one goes ahead, or goes with it, or is left alone
        x = Meshes.of("nodes 4;air 0 1;air 0 2;air 1 3;air 2 3;", 6);
        for (int will = 0; will <= 7; will++) {
            x.will(2, will);
            CHECK.fine(x, "would(0), WILL 3 and " + will, x.would(0), will <= 3 ? 2 : 4);
            x.will(1, 7);
            CHECK.fine(x, "would(0), WILL 7 and " + will, x.would(0), will == 7 ? 6 : 2);
            x.will(1, 3);
        }
    }

    /** "BEHIND: all that is KNOWN of WILLING ones, but itself and its NEIGHBOURS". */
    private static void behindIsNeitherItselfNorANeighbour() {
        ChosenRelays x = Meshes.of("nodes 5;air 0 1;air 0 2;air 1 2;air 1 3;air 2 4;", 6);
        CHECK.due("KNOWN of 1", x.link(0, 1, 3), 0b01101);
        CHECK.due("KNOWN of 2", x.link(0, 2, 3), 0b10011);
        CHECK.due("BEHIND 0", x.node(0, 5), 0b11000);
        x.will(2, 0);
        CHECK.due("BEHIND 0: neither 4, nor 2 who is not WILLING", x.node(0, 5), 0b01000);
        x.will(2, 1);
        CHECK.due("BEHIND 0 with 4", x.node(0, 5), 0b11000);
        CHECK.due("BEHIND 3", x.node(3, 5), 0b00101);
    }

    /** "those by whom alone of all WILLING ones some NODE BEHIND is KNOWN": they are not chosen one by one. */
    private static void aloneOfAllWilling() {
        ChosenRelays x = Meshes.of("nodes 4;air 0 1;air 0 2;air 1 3;air 2 3;", 6);
        CHECK.fine(x, "pick(0, 0) of two", x.pick(0, 0), 1);
        x.will(2, 0);
        CHECK.fine(x, "would(0), 1 alone is WILLING", x.would(0), 2);
        CHECK.refused(x, "pick(0, 0), 1 alone is WILLING", x.pick(0, 0), 7);
        x.will(2, 1);
        CHECK.fine(x, "pick(0, 0) of WILL 3 and 1", x.pick(0, 0), 1);
        x.will(2, 7);
        CHECK.refused(x, "pick(0, 0), 2 always is one", x.pick(0, 0), 7);
        CHECK.fine(x, "would(0), 2 always is one", x.would(0), 4);
    }

    /** In a star of eight its middle alone leads on, whichever NODE it is. */
    private static void neededFromTheFirstToTheLast() {
        for (int middle = 0; middle < 8; middle++) {
            StringBuilder text = new StringBuilder("nodes 8;");
            for (int node = 0; node < 8; node++) {
                text.append(node == middle ? "" : "air " + node + " " + middle + ";");
            }
            ChosenRelays x = Meshes.of(text.toString(), 6);
            for (int node = 0; node < 8; node++) {
                int due = node == middle ? 0 : 1 << middle;
                CHECK.fine(x, "needed(" + node + ") by " + middle, x.needed(node), due);
                CHECK.fine(x, "would(" + node + ") by " + middle, x.would(node), due);
                CHECK.fine(x, "least(" + node + ") by " + middle, x.least(node), due);
                CHECK.fine(x, "covers(" + node + ", the middle)", x.covers(node, 1 << middle),
                    node == middle ? 0 : 255 & ~due & ~(1 << node));
                CHECK.refused(x, "pick(" + node + ", 0) by " + middle, x.pick(node, 0), 7);
            }
            CHECK.fine(x, "spine(0) by " + middle, x.spine(0), 1 << middle);
            CHECK.fine(x, "spine(2) by " + middle, x.spine(2), 1 << middle);
            CHECK.fine(x, "cuts() by " + middle, x.cuts(), 1 << middle);
            CHECK.fine(x, "busy(" + middle + ")", x.busy(middle), 42);
        }
    }

    /** "pick: from 0 on (1: below 0; 7: not so many)": one and two are picked, with one more that is none any more. */
    private static void picksAndNoMore() {
        ChosenRelays x = Meshes.of(Meshes.FAN, 4);
        CHECK.fine(x, "pick(0, 0)", x.pick(0, 0), 2);
        for (int i = 1; i <= 10; i++) {
            CHECK.refused(x, "pick(0, " + i + ")", x.pick(0, i), 7);
        }
        x = Meshes.of("nodes 6;air 0 1;air 0 2;air 0 3;air 1 4;air 2 4;air 2 5;air 3 5;will 1 4;will 3 1;", 4);
        CHECK.fine(x, "would(0)", x.would(0), 4);
        CHECK.fine(x, "pick(0, 0)", x.pick(0, 0), 1);
        CHECK.fine(x, "pick(0, 1)", x.pick(0, 1), 2);
        for (int i = 2; i <= 10; i++) {
            CHECK.refused(x, "pick(0, " + i + ")", x.pick(0, i), 7);
        }
        CHECK.refused(x, "pick(0, -1)", x.pick(0, -1), 1);
    }

    /** "The WILL (0 to 7) .. the fewest RELAYS now, together; of several the least". */
    private static void willsThatAreBest() {
        bestWill("nodes 4;air 0 1;air 0 2;air 1 3;air 2 3;", 0, 0);
        bestWill("nodes 8;air 0 1;air 0 2;air 0 3;air 0 4;air 0 5;air 1 2;air 1 5;air 1 6;air 1 7;air 2 3;air 2 4;"
            + "air 2 5;air 2 6;air 2 7;air 3 4;air 3 7;air 4 5;air 4 7;air 6 7;will 0 6;will 4 1;will 7 5;", 2, 5);
        // one more with 7 than with 5 and 6
        bestWill("nodes 8;air 0 1;air 0 2;air 0 3;air 0 5;air 0 6;air 0 7;air 1 2;air 1 3;air 1 7;air 2 3;air 2 4;"
            + "air 2 7;air 3 6;air 3 7;air 4 5;air 4 6;air 4 7;air 5 7;will 3 5;will 7 6;", 0, 5);
        bestWill("nodes 7;air 0 1;air 0 2;air 0 4;air 0 5;air 1 2;air 1 3;air 1 4;air 1 5;air 2 6;air 3 4;air 3 5;"
            + "air 3 6;air 4 5;air 4 6;will 0 6;will 4 0;will 6 6;", 1, 6);
        bestWill("nodes 8;air 0 2;air 0 4;air 0 5;air 1 3;air 1 4;air 1 5;air 1 6;air 1 7;air 2 3;air 2 5;air 2 7;"
            + "air 3 4;air 3 5;air 3 6;air 3 7;air 5 6;will 0 6;will 1 6;will 2 5;will 6 5;", 3, 6);
        ChosenRelays x = Meshes.of("nodes 4;air 0 1;air 0 2;air 1 3;air 2 3;", 6);
        x.will(1, 7);
        CHECK.fine(x, "bestWill(1) of WILL 7", x.bestWill(1), 0);
        CHECK.due("WILL stays 7", x.node(1, 1), 7);
    }

    /** By what all would choose, one WILL after the other. */
    private static void bestWill(String text, int node, int want) {
        ChosenRelays x = Meshes.of(text, 5);
        CHECK.fine(x, "bestWill(" + node + ") of " + text, x.bestWill(node), want);
        int best = -1;
        int fewest = 100;
        for (int will = 0; will <= 7; will++) {
            x.will(node, will);
            int relays = 0;
            for (int other = 0; other < x.many(0); other++) {
                relays += Integer.bitCount(x.would(other));
            }
            if (relays < fewest) {
                best = will;
                fewest = relays;
            }
        }
        CHECK.due("the WILL of the fewest", best, want);
    }

    /** "the SET of the fewest WILLING ones of whom all BEHIND are KNOWN, of as many the least". */
    private static void leastOfAsMany() {
        ChosenRelays x = Meshes.of("nodes 5;air 0 1;air 0 2;air 0 3;air 1 4;air 2 4;air 3 4;", 6);
        CHECK.fine(x, "least(0) of three", x.least(0), 2);
        CHECK.fine(x, "least(4) of three", x.least(4), 2);
        x.will(1, 0);
        CHECK.fine(x, "least(0) of two", x.least(0), 4);
        x.will(2, 0);
        CHECK.fine(x, "least(0) of one", x.least(0), 8);
        x.will(3, 0);
        CHECK.fine(x, "least(0) of none", x.least(0), 0);
        // two are the fewest, though three are a less number: 1 and 6 (66), not 1, 2 and 3 (14)
        x = Meshes.of("nodes 8;air 0 1;air 0 2;air 0 3;air 0 6;air 1 4;air 2 5;air 3 7;air 6 5;air 6 7;", 6);
        CHECK.fine(x, "least(0)", x.least(0), 66);
    }

    /** "By how many RELAYS .. more than LEAST has (below 0, too; STATUS tells NONE from -1)". */
    private static void moreOrFewerThanLeast() {
        ChosenRelays x = Meshes.of(THREE + "will 1 0;", 6);
        CHECK.fine(x, "waste() of none", x.waste(), 0);
        x.will(1, 3);
        CHECK.fine(x, "waste(), two fewer", x.waste(), -2);
        x.turn(2, false);
        CHECK.fine(x, "waste(), one fewer: -1", x.waste(), -1);
        x.many(-1);
        CHECK.fine(x, "waste() behind another STATUS", x.waste(), -1);
        x.turn(0, false);
        CHECK.fine(x, "waste() of 1 alone", x.waste(), 0);
        x = Meshes.of("nodes 2;air 0 1;will 1 7;", 6);
        CHECK.fine(x, "waste(), one more", x.waste(), 1);
        CHECK.fine(new ChosenRelays(), "waste() without NODES", new ChosenRelays().waste(), 0);
    }

    /** "a SET with a NODE that there is not", below 0 too. */
    private static void setsOfNodesThatThereAre() {
        ChosenRelays x = new ChosenRelays();
        for (int nodes = 1; nodes <= 8; nodes++) {
            x.add(3);
            int all = (1 << nodes) - 1;
            CHECK.fine(x, "covers(0, " + all + ")", x.covers(0, all), 0);
            CHECK.refused(x, "covers(0, " + (all + 1) + ")", x.covers(0, all + 1), 1);
            CHECK.refused(x, "covers(0, " + (1 << nodes) + " and all)", x.covers(0, all | 1 << nodes), 1);
            CHECK.refused(x, "covers(0, -1)", x.covers(0, -1), 1);
            CHECK.refused(x, "covers(0, the highest bit)", x.covers(0, Integer.MIN_VALUE), 1);
            CHECK.refused(x, "covers(0, a high bit)", x.covers(0, 1 << 30), 1);
            if (nodes > 1) {
                CHECK.fine(x, "echo(0, 1, 0, " + all + ")", x.echo(0, 1, 0, all), 1);
                CHECK.due("topology", x.topology(0, 1, 0), all);
                CHECK.refused(x, "echo(0, 1, 0, " + (all + 1) + ")", x.echo(0, 1, 0, all + 1), 1);
                CHECK.refused(x, "echo(0, 1, 0, -1)", x.echo(0, 1, 0, -1), 1);
                CHECK.fine(x, "echo(0, 1, 0, 0)", x.echo(0, 1, 0, 0), 1);
                CHECK.due("topology of none", x.topology(0, 1, 0), 0);
            }
        }
    }

    /** "0 at first; if it tells other CHOOSERS than its last NOTICE did (none at first), the NUMBER is 1 more (round)". */
    private static void numbersOneByOne() {
        ChosenRelays x = Meshes.of("nodes 4;air 0 1;air 1 2;air 1 3;every 1;", 4);
        CHECK.due("NUMBER at first", x.node(1, 2), 0);
        CHECK.due("nothing told", x.node(1, 8), 0);
        x.tick(1);
        CHECK.due("NUMBER of the first NOTICE", x.node(1, 2), 1);
        CHECK.due("told", x.node(1, 8), 13);
        x.tick(3);
        CHECK.due("NUMBER of the same CHOOSERS", x.node(1, 2), 1);
        CHECK.due("NUMBER of one who sent none", x.node(0, 2), 0);
        for (int turns = 1; turns <= 35; turns++) {
            x.turn(3, turns % 2 == 0);
            x.tick(9);
            CHECK.due("CHOOSERS after " + turns, x.node(1, 7), turns % 2 == 0 ? 13 : 5);
            CHECK.due("told after " + turns, x.node(1, 8), turns % 2 == 0 ? 13 : 5);
            CHECK.due("NUMBER after " + turns, x.node(1, 2), (1 + turns) % 16);
            CHECK.due("NUMBER that 0 has after " + turns, x.topology(0, 1, 1), (1 + turns) % 16);
            CHECK.due("OLD after " + turns, x.many(7), 0);
        }
    }

    /** The last NOTICE counts, however long ago it was. */
    private static void theSameChoosersAgain() {
        ChosenRelays x = Meshes.of(THREE + "every 1;", 8);
        CHECK.due("NUMBER", x.node(1, 2), 1);
        int sent = x.many(5);
        x.will(1, 0);
        x.tick(5);
        CHECK.due("no CHOOSERS", x.node(1, 7), 0);
        CHECK.due("NOTICES, one ahead of 0 and 2 telling it", x.many(5), sent + 1);
        CHECK.due("what the last one told stays", x.node(1, 8), 5);
        x.will(1, 3);
        x.tick(5);
        CHECK.due("CHOOSERS again", x.node(1, 7), 5);
        CHECK.due("NOTICES again", x.many(5) > sent + 1, true);
        CHECK.due("the same NUMBER", x.node(1, 2), 1);
    }

    /** "OLDER .. 1 to 7": not taken in; with 0 and 8 to 15 it is. */
    private static void olderByAllNumbers() {
        for (int has = 0; has < 16; has++) {
            for (int less = 0; less < 16; less++) {
                int number = (has - less + 16) % 16;
                boolean older = less >= 1 && less <= 7;
                ChosenRelays x = Meshes.of("nodes 2;hold 9;");
                CHECK.fine(x, "older(" + number + ", " + has + ")", x.older(number, has), older ? 1 : 0);
                CHECK.fine(x, "echo of " + has + ", of none", x.echo(0, 1, has, 1), 1);
                x.tick(1);
                CHECK.fine(x, "echo of " + number + " behind " + has, x.echo(0, 1, number, 2), older ? 0 : 1);
                CHECK.due("SET", x.topology(0, 1, 0), older ? 1 : 2);
                CHECK.due("NUMBER", x.topology(0, 1, 1), older ? has : number);
                CHECK.due("it goes in", x.topology(0, 1, 2), older ? 8 : 9);
                CHECK.due("OLD", x.many(7), older ? 1 : 0);
            }
        }
    }

    /** "is not taken in (OLD, 1 more)": but it is got, and sent by those whose CHOOSER sent it. */
    private static void oldOnesAreGotToo() {
        ChosenRelays x = Meshes.of(Meshes.CHAIN, 6);
        CHECK.due("NUMBER of 2", x.node(2, 2), 1);
        x.echo(0, 2, 5, 1);
        x.echo(1, 2, 8, 1);
        x.echo(3, 2, 9, 1);
        x.tick(2);
        CHECK.due("OLD for 0 and 1, not for 3", x.many(7), 2);
        CHECK.due("SET that 0 has", x.topology(0, 2, 0), 1);
        CHECK.due("it goes in", x.topology(0, 2, 2), 4);
        CHECK.due("SET that 1 has", x.topology(1, 2, 0), 1);
        CHECK.due("SET that 3 has", x.topology(3, 2, 0), 10);
        CHECK.due("NUMBER that 3 has", x.topology(3, 2, 1), 1);
        CHECK.due("it goes in", x.topology(3, 2, 2), 6);
        CHECK.due("of 2", x.notice(0, 1), 2);
        CHECK.due("who got it", x.notice(0, 2), 3);
        CHECK.due("how often it was sent", x.notice(0, 3), 2);
        x.tick(4);
        CHECK.due("gone, so that none is OLD", x.topology(0, 2, 1), 1);
        CHECK.due("OLD in the 10th TICK too, in the 12th no more", x.many(7), 4);
    }

    /** "it goes in HOLD TICKS. In each TICK it goes in one less; with 0 it is gone": so are ROUTES by it. */
    private static void topologyOfHold() {
        for (int hold : new int[] {1, 2, 3, 98, 99}) {
            ChosenRelays x = Meshes.of("nodes 4;air 0 1;will 0 0;will 1 0;", 4);
            x.set(1, hold);
            x.echo(0, 1, 7, 4);
            x.echo(0, 2, 7, 8);
            for (int left = hold; left > 0; left--) {
                CHECK.due("topology(0, 1, 2) of HOLD " + hold, x.topology(0, 1, 2), left);
                if (left < 3 || left == hold) {
                    CHECK.due("SET", x.topology(0, 2, 0), 8);
                    CHECK.due("table(0)", x.table(0), 14);
                    CHECK.due("route(0, 3, 0)", x.route(0, 3, 0), 3);
                }
                x.tick(1);
            }
            for (int what = 0; what < 3; what++) {
                CHECK.refused(x, "topology(0, 1, " + what + ") behind HOLD " + hold, x.topology(0, 1, what), 7);
            }
            CHECK.due("table(0)", x.table(0), 2);
            CHECK.refused(x, "route(0, 2, 0)", x.route(0, 2, 0), 7);
            CHECK.fine(x, "echo(0, 1, 6, 0) that was older than what is gone", x.echo(0, 1, 6, 0), 1);
            CHECK.due("OLD", x.many(7), 0);
            x.tick(hold);
            CHECK.refused(x, "topology(0, 1, 0) gone again", x.topology(0, 1, 0), 7);
        }
    }

    /** "of each other NODE", the first and the last, to each, the first and the last. */
    private static void topologyOfEachGoes() {
        ChosenRelays x = Meshes.of("nodes 8;hold 3;");
        for (int ticks = 0; ticks <= 3; ticks++) {
            for (int cell = 0; cell < 64; cell++) {
                int node = cell / 8;
                int other = cell % 8;
                if (node != other && ticks == 0) {
                    CHECK.due("echo(" + node + ", " + other + ", 15, 255)", x.echo(node, other, 15, 255), 1);
                }
                if (node != other) {
                    CHECK.due("topology(" + node + ", " + other + ", 2) after " + ticks, x.topology(node, other, 2),
                        ticks == 3 ? -1 : 3 - ticks);
                }
            }
            x.tick(1);
        }
    }

    /** "HOLD from now on": what is taken in stays as it was. */
    private static void holdFromNowOn() {
        ChosenRelays x = Meshes.of("nodes 3;");
        x.echo(0, 1, 0, 0);
        x.set(1, 99);
        CHECK.due("taken in with HOLD 6", x.topology(0, 1, 2), 6);
        x.echo(0, 2, 0, 0);
        CHECK.due("taken in with HOLD 99", x.topology(0, 2, 2), 99);
        x.set(1, 1);
        CHECK.due("taken in with HOLD 99 still", x.topology(0, 2, 2), 99);
        x.tick(1);
        CHECK.due("one less", x.topology(0, 2, 2), 98);
    }

    /** BLIND each who gets it sends it; else only who has it from a CHOOSER. */
    private static void blindOnesGoFurther() {
        ChosenRelays x = Meshes.of(Meshes.CHAIN, 4);
        int[] relays = {2, 1, 14, 4};
        for (int what = 0; what < 4; what++) {
            CHECK.fine(x, "flood(0, " + what + ") without CHOOSERS", x.flood(0, what), relays[what]);
        }
        x = Meshes.of(Meshes.CHAIN, 2);
        int[] none = {0, 1, 0, 1};
        for (int what = 0; what < 4; what++) {
            CHECK.fine(x, "flood(0, " + what + ") without NEIGHBOURS", x.flood(0, what), none[what]);
        }
        x = Meshes.of("nodes 1;", 4);
        for (int what = 0; what < 4; what++) {
            CHECK.fine(x, "flood(0, " + what + ") of one", x.flood(0, what), none[what]);
        }
    }

    /** "NOTICES, the latest 16", "(0 to 15)". */
    private static void theLatestSixteen() {
        ChosenRelays x = Meshes.of(THREE + "every 1;", 4);
        for (int sent = 0; sent <= 19; sent++) {
            CHECK.due("NOTICES", x.many(5), sent);
            for (int i = 0; i < 16; i += i == 0 ? 14 : 1) {
                if (i < sent) {
                    CHECK.fine(x, "notice(" + i + ", 0) of " + sent, x.notice(i, 0), 4 + sent - i);
                } else {
                    CHECK.refused(x, "notice(" + i + ", 0) of " + sent, x.notice(i, 0), 7);
                }
            }
            if (sent > 0 && sent < 16) {
                CHECK.fine(x, "the first of " + sent, x.notice(sent - 1, 0), 5);
                CHECK.refused(x, "ahead of the first", x.notice(sent, 0), 7);
            }
            CHECK.refused(x, "notice(16, 0)", x.notice(16, 0), 1);
            x.tick(1);
        }
        x.tick(14);
        for (int i = 0; i < 16; i++) {
            CHECK.fine(x, "notice(" + i + ", 0) of 34", x.notice(i, 0), 38 - i);
        }
    }

    private static long draw(long s) {
        return (s * 4561 + 51349) % 243000;
    }

    /** "below LOSS it is lost", "s times m by 243,000, rounded down": seeds by which s is the least, or the most, of a draw. */
    private static void drawsAtTheirBounds() {
        int met = 0;
        for (int seed = 0; seed <= 9999; seed++) {
            long s = seed;
            for (int i = 1; i <= 40; i++) {
                s = draw(s);
                long rest = s * 16 % 243000;
                if (rest < 16 || rest >= 243000 - 16) {
                    met++;
                    int is = (int) (s * 16 / 243000);
                    lostAsByHand(seed, is, (i + 1) / 2);
                    lostAsByHand(seed, is + 1, (i + 1) / 2);
                }
            }
        }
        CHECK.due("draws at their bounds were met", met >= 32, true);
        lostAsByHand(0, 1, 200);
        lostAsByHand(9999, 15, 200);
        lostAsByHand(0, 0, 200);
        lostAsByHand(9999, 16, 200);
    }

    private static void lostAsByHand(int seed, int loss, int ticks) {
        long s = seed;
        int lost = 0;
        for (int i = 0; i < 2 * ticks; i++) {
            s = draw(s);
            lost += s * 16 / 243000 < loss ? 1 : 0;
        }
        ChosenRelays x = Meshes.of("nodes 2;air 0 1;");
        CHECK.fine(x, "run(" + ticks + ", " + seed + ", " + loss + ")", x.run(ticks, seed, loss), lost);
    }

    /** "of each HELLO that would be heard, and of each copy of a NOTICE that would be got, .. in that order". */
    private static void drawsInThatOrder() {
        for (int seed = 0; seed < 400; seed++) {
            int loss = seed % 17;
            ChosenRelays x = Meshes.of(THREE + "every 1;", 20);
            long s = seed;
            boolean[] lost = new boolean[6];
            int sum = 0;
            for (int i = 0; i < 6; i++) {
                s = draw(s);
                lost[i] = s * 16 / 243000 < loss;
                sum += lost[i] ? 1 : 0;
            }
            CHECK.fine(x, "run(1, " + seed + ", " + loss + ")", x.run(1, seed, loss), sum);
            int[][] heard = {{0, 1}, {1, 0}, {1, 2}, {2, 1}};
            for (int i = 0; i < 4; i++) {
                CHECK.due("QUALITY " + i + " of seed " + seed, x.link(heard[i][0], heard[i][1], 0), lost[i] ? 499 : 999);
            }
            CHECK.due("the copy to 0 of seed " + seed, x.topology(0, 1, 2), lost[4] ? 5 : 6);
            CHECK.due("the copy to 2 of seed " + seed, x.topology(2, 1, 2), lost[5] ? 5 : 6);
            CHECK.due("who got it of seed " + seed, x.notice(0, 2), (lost[4] ? 0 : 1) + (lost[5] ? 0 : 1));
        }
    }

    /** "n TICKS (1 to 200) by a seed (0 to 9,999) and a LOSS (0 to 16)", "TICKS go by (1 to 200)". */
    private static void runsAtTheirBounds() {
        ChosenRelays x = Meshes.of("nodes 2;air 0 1;");
        CHECK.fine(x, "run(1, 0, 0)", x.run(1, 0, 0), 0);
        CHECK.fine(x, "run(200, 9999, 0)", x.run(200, 9999, 0), 0);
        CHECK.due("TICK", x.many(2), 201);
        CHECK.fine(x, "run(1, 9999, 16)", x.run(1, 9999, 16), 2);
        CHECK.fine(x, "run(200, 0, 16)", x.run(200, 0, 16), 400);
        CHECK.due("TICK", x.many(2), 402);
        CHECK.fine(x, "tick(1)", x.tick(1), 403);
        CHECK.fine(x, "tick(200)", x.tick(200), 603);
        int[][] bad = {{0, 0, 0}, {201, 0, 0}, {1, -1, 0}, {1, 10000, 0}, {1, 0, -1}, {1, 0, 17}};
        for (int[] one : bad) {
            CHECK.refused(x, "run", x.run(one[0], one[1], one[2]), 1);
        }
        CHECK.refused(x, "tick(0)", x.tick(0), 1);
        CHECK.refused(x, "tick(201)", x.tick(201), 1);
        CHECK.due("TICK", x.many(2), 603);
    }

    /** TICKS have "nothing lost", ON PAPER "nothing lost but by JAMS", behind a RUN in which all was lost too. */
    private static void lossesEndWithTheRun() {
        ChosenRelays x = Meshes.of(Meshes.CHAIN, 8);
        x.run(1, 3, 16);
        x.tick(1);
        CHECK.due("QUALITY, lost and heard", x.link(0, 1, 0), 749);
        x = Meshes.of(Meshes.CHAIN, 8);
        x.run(1, 3, 16);
        CHECK.fine(x, "flood(0, 0)", x.flood(0, 0), 14);
        CHECK.fine(x, "flood(3, 2)", x.flood(3, 2), 7);
        x.tick(1);
        CHECK.due("TOPOLOGY told anew", x.topology(0, 2, 2), 6);
        CHECK.due("all got it", x.notice(0, 2), 3);
        x = Meshes.of(Meshes.CHAIN);
        x.run(1, 3, 16);
        CHECK.fine(x, "settles() one TICK later", x.settles(), 5);
        x.run(1, 3, 16);
        CHECK.fine(x, "mends(3) two TICKS later", x.mends(3), 4);
        x.tick(6);
        CHECK.due("told()", x.told(), 1);
    }

    /** "MARKS, at most 4: all is taken back to the latest one, which is gone then." */
    private static void marksAtMostFour() {
        ChosenRelays x = new ChosenRelays();
        CHECK.refused(x, "back() of none", x.back(), 7);
        for (int round = 0; round < 2; round++) {
            for (int i = 1; i <= 4; i++) {
                CHECK.fine(x, "mark()", x.mark(), i);
                CHECK.due("MARKS", x.many(8), i);
                x.tick(i);
            }
            CHECK.due("the TICK", x.many(2), 10);
            CHECK.refused(x, "mark(), one too many", x.mark(), 5);
            CHECK.due("the TICK stays", x.many(2), 10);
            int[] ticks = {6, 3, 1, 0};
            for (int i = 0; i < 4; i++) {
                CHECK.fine(x, "back()", x.back(), 3 - i);
                CHECK.due("MARKS left", x.many(8), 3 - i);
                CHECK.due("the TICK of the MARK", x.many(2), ticks[i]);
            }
            CHECK.refused(x, "back() of none", x.back(), 7);
            CHECK.due("the TICK stays", x.many(2), 0);
        }
        // a MARK that is gone is not one of the four
        for (int i = 0; i < 20; i++) {
            CHECK.fine(x, "mark() again", x.mark(), 1);
            CHECK.fine(x, "back() again", x.back(), 0);
        }
        // with more NODES than there were
        x.mark();
        for (int i = 0; i < 8; i++) {
            x.add(7);
        }
        x.back();
        CHECK.due("NODES", x.many(0), 0);
        CHECK.fine(x, "add(1)", x.add(1), 0);
        CHECK.due("WILL", x.node(0, 1), 1);
    }
}
