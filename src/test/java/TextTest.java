/** Promises 1 to 5, and the text of a mesh. */
public final class TextTest {
    private static final Check CHECK = new Check("TextTest");

    public static void main(String[] args) {
        newObject();
        statusOfTheLatestCall();
        feeding();
        loading();
        aMeshIsNewWithEachLoad();
        whatEachLineDoes();
        textsWithoutFault();
        noSuchToken();
        cannotStandThere();
        noSuchNode();
        numbersThatCannotBe();
        toldAlready();
        tooManyNodes();
        faultOfTheLatestLoad();
        CHECK.end();
    }

    private static void newObject() {
        ChosenRelays x = new ChosenRelays();
        CHECK.due("status()", x.status(), 0);
        CHECK.due("NONE", ChosenRelays.NONE, -1);
        int[] want = {0, 0, 0, 2, 6, 0, 0, 0, 0, 700, 300};
        for (int what = 0; what < want.length; what++) {
            CHECK.fine(x, "new many(" + what + ")", x.many(what), want[what]);
        }
        CHECK.refused(x, "load(1) of an empty tape", x.load(1), 1);
        CHECK.refused(x, "back() of a new object", x.back(), 7);
    }

    private static void statusOfTheLatestCall() {
        ChosenRelays x = new ChosenRelays();
        x.node(0, 0);
        CHECK.due("status()", x.status(), 2);
        CHECK.due("status() again", x.status(), 2);
        x.feed(0, 0, 0, 0, 0);
        CHECK.due("status() behind feed()", x.status(), 2);
        x.fault(0);
        x.fault(7);
        CHECK.due("status() behind fault()", x.status(), 2);
        x.many(0);
        CHECK.due("status() behind many()", x.status(), 0);
        x.many(-1);
        x.turn(3, true);
        CHECK.due("status() behind turn()", x.status(), 2);
        x.told();
        CHECK.due("status() behind told()", x.status(), 0);
        x.many(-1);
        x.waste();
        CHECK.due("status() behind waste()", x.status(), 0);
        x.many(-1);
        x.cuts();
        CHECK.due("status() behind cuts()", x.status(), 0);
        x.many(-1);
        x.settles();
        CHECK.due("status() behind settles()", x.status(), 0);
    }

    private static void feeding() {
        ChosenRelays x = new ChosenRelays();
        for (int i = 1; i <= 20; i++) {
            CHECK.due("feed() " + i, x.feed(0x20202020, 0x0a0a0a0a, 0x20202020, 0x0a0a0a0a, 0x20202020), 20 * i);
        }
        CHECK.due("feed() beyond 400", x.feed(0, 0, 0, 0, 0), -1);
        CHECK.due("feed() beyond 400 again", x.feed(0, 0, 0, 0, 0), -1);
        CHECK.refused(x, "load(401)", x.load(401), 1);
        CHECK.fine(x, "load(400)", x.load(400), 0);
        CHECK.due("feed() behind load()", x.feed(0, 0, 0, 0, 0), 20);

        // "nodes 3;" with the highest byte first, then bytes of 128 and more, which are no TOKENS
        x = new ChosenRelays();
        x.feed(0x6e6f6465, 0x7320333b, 0x80ffff20, -1, -1);
        CHECK.fine(x, "load(8)", x.load(8), 3);
        x.feed(0x6e6f6465, 0x7320333b, 0x20ffff20, -1, -1);
        CHECK.refused(x, "load(10)", x.load(10), 9);
        CHECK.due("fault(0)", x.fault(0), 1);
        CHECK.due("fault(1)", x.fault(1), 9);
    }

    private static void loading() {
        ChosenRelays x = new ChosenRelays();
        Meshes.feed(x, "nodes 2;");
        CHECK.refused(x, "load(-1)", x.load(-1), 1);
        CHECK.refused(x, "load(21)", x.load(21), 1);
        CHECK.due("many(0) behind a load() in vain", x.many(0), 0);
        CHECK.fine(x, "load(8)", x.load(8), 2);
        CHECK.refused(x, "load(8) of the same tape", x.load(8), 1);
        CHECK.fine(x, "load(0)", x.load(0), 0);
        CHECK.due("many(0)", x.many(0), 0);

        CHECK.due("load()", Meshes.load(x, "nodes 3;"), 3);
        x.tick(2);
        x.mark();
        CHECK.refused(x, "load() with a FAULT", Meshes.load(x, "nodes 2;nodes 9;"), 9);
        CHECK.due("the old mesh stays", x.many(0), 3);
        CHECK.due("its tick stays", x.many(2), 2);
        CHECK.due("feed() behind a FAULT", x.feed(0, 0, 0, 0, 0), 20);
        x.load(0);
        CHECK.due("marks stay", x.many(8), 1);
        CHECK.due("back()", x.back(), 0);
        CHECK.due("the mesh of the mark", x.many(0), 3);
        CHECK.due("the tick of the mark", x.many(2), 2);
    }

    private static void aMeshIsNewWithEachLoad() {
        ChosenRelays x = Meshes.of(Meshes.CHAIN + "every 1;hold 9;jam 3 2 50;will 0 7;", 12);
        x.set(3, 10);
        x.set(2, 20);
        x.echo(0, 2, 0, 0);
        Meshes.load(x, "nodes 4;");
        int[] want = {4, 15, 0, 2, 6, 0, 0, 0, 0, 700, 300};
        for (int what = 0; what < want.length; what++) {
            CHECK.due("loaded many(" + what + ")", x.many(what), want[what]);
        }
        for (int node = 0; node < 4; node++) {
            int[] of = {1, 3, 0, 0, 0, 0, 0, 0, 0, 0};
            for (int what = 0; what < of.length; what++) {
                CHECK.due("loaded node(" + node + ", " + what + ")", x.node(node, what), of[what]);
            }
            for (int other = 0; other < 4; other++) {
                for (int what = 0; what < 6 && other != node; what++) {
                    CHECK.due("loaded link(" + node + ", " + other + ", " + what + ")", x.link(node, other, what), 0);
                }
                if (other != node) {
                    CHECK.refused(x, "loaded topology", x.topology(node, other, 0), 7);
                }
            }
        }
        CHECK.refused(x, "loaded notice(0, 0)", x.notice(0, 0), 7);
    }

    private static void whatEachLineDoes() {
        ChosenRelays x = Meshes.of("nodes 2;will 1 0;air 0 1;nodes 2;ear 2 3;off 2;every 9;hold 99;jam 3 0 99;will 3 7;"
            + "jam 0 3 1;jam 0 3 2;ear 2 3;will 0 5;will 0 6;");
        CHECK.due("many(0)", x.many(0), 4);
        CHECK.due("many(1)", x.many(1), 0b1011);
        CHECK.due("many(3)", x.many(3), 9);
        CHECK.due("many(4)", x.many(4), 99);
        int[] wills = {6, 0, 3, 7};
        int[] hears = {2, 1, 0, 4};
        for (int node = 0; node < 4; node++) {
            CHECK.due("WILL of " + node, x.node(node, 1), wills[node]);
            CHECK.due("heard by " + node, x.node(node, 9), hears[node]);
        }
        CHECK.due("jam from 3 to 0", x.link(0, 3, 5), 99);
        CHECK.due("jam from 0 to 3", x.link(3, 0, 5), 2);
        CHECK.due("no jam", x.link(0, 1, 5), 0);
    }

    private static void textsWithoutFault() {
        loads("", 0);
        loads(" \n\n ", 0);
        loads("nodes 8;", 8);
        loads("nodes 4;nodes 4;", 8);
        loads("nodes2;air0 1;", 2);
        loads("\n nodes\n2 ; air 0\n1 ;\n", 2);
        loads("nodes 002;will 001 007;", 2);
        loads("every 9;hold 99;nodes 1;", 1);
        loads("every 1;hold 1;nodes 1;will 0 0;", 1);
    }

    private static void noSuchToken() {
        faults("#", 1, 0);
        faults("Nodes 2;", 1, 0);
        faults("nodes 2;\t", 1, 8);
        faults("nodes 2;\r\n", 1, 8);
        faults("nodes 2\0;", 1, 7);
        faults("nodes 2,", 1, 7);
        faults("nodes -2;", 1, 6);
        faults("nodes 0002;", 1, 6);
        faults("nodes 1234567890123;", 1, 6);
        faults("nodes 1 1234;", 1, 8);
        faults("1234;", 1, 0);
        faults("nodes 1;off \u00e9", 1, 12);
        faults("no{des", 2, 0);
        faults("nodes`2;", 1, 5);
        faults("nodes 2:", 1, 7);
        faults("nodes 2/", 1, 7);
    }

    private static void cannotStandThere() {
        faults("nodes", 2, 5);
        faults("nodes 2", 2, 7);
        faults("nodes 2 \n ", 2, 10);
        faults("nodes ;", 2, 6);
        faults("nodes two;", 2, 6);
        faults("nodes 2 2;", 2, 8);
        faults("nodes 2 nodes", 2, 8);
        faults("2;", 2, 0);
        faults(";", 2, 0);
        faults("nodes 2;;", 2, 8);
        faults("node 2;", 2, 0);
        faults(" nodesx 2;", 2, 1);
        faults("nodes 2;will 0;", 2, 14);
        faults("nodes 2;jam 0 1;", 2, 15);
        faults("nodes 2;off 0 1;", 2, 14);
        faults("nodes 2;air 0 1 1;", 2, 16);
        faults("nodes 2;turn 0;", 2, 8);
        faults("every 1 2;", 2, 8);
    }

    private static void noSuchNode() {
        faults("will 0 1;", 3, 5);
        faults("off 0;nodes 1;", 3, 4);
        faults("nodes 2;will 2 1;", 3, 13);
        faults("nodes 2;air 2 2;", 3, 12);
        faults("nodes 2;air 0 2;", 3, 14);
        faults("nodes 2;ear 0 999;", 3, 14);
        faults("nodes 2;off 2;", 3, 12);
        faults("nodes 2;jam 2 0 1;", 3, 12);
        faults("nodes 2;jam 0 2 1;", 3, 14);
        faults("nodes 8;off 8;", 3, 12);
    }

    private static void numbersThatCannotBe() {
        faults("nodes 0;", 4, 6);
        faults("nodes 9;", 4, 6);
        faults("nodes 5;nodes 9;", 4, 14);
        faults("nodes 9;#", 4, 6);
        faults("nodes 2;will 1 8;", 4, 15);
        faults("nodes 2;air 1 1;", 4, 14);
        faults("nodes 2;ear 0 0;", 4, 14);
        faults("nodes 2;jam 1 1 1;", 4, 14);
        faults("nodes 2;jam 0 1 0;", 4, 16);
        faults("nodes 2;jam 0 1 100;", 4, 16);
        faults("every 0;", 4, 6);
        faults("every 10;", 4, 6);
        faults("hold 0;", 4, 5);
        faults("hold 100;", 4, 5);
    }

    private static void toldAlready() {
        faults("nodes 2;off 1;off 1;", 5, 18);
        faults("every 2;every 2;", 5, 8);
        faults("every 2;every", 5, 8);
        faults("hold 6;nodes 1;hold #", 5, 15);
        faults("hold 6;hold 0;", 5, 7);
    }

    private static void tooManyNodes() {
        faults("nodes 8;nodes 1;", 6, 14);
        faults("nodes 1;nodes 8;", 6, 14);
        faults("nodes 5;nodes 4;", 6, 14);
    }

    private static void faultOfTheLatestLoad() {
        ChosenRelays x = new ChosenRelays();
        CHECK.due("fault(0) ahead of any", x.fault(0), -1);
        CHECK.due("fault(1) ahead of any", x.fault(1), -1);
        x.load(5);
        CHECK.due("fault(0) behind a load() that was none", x.fault(0), -1);
        Meshes.load(x, "nodes 9;");
        x.load(5);
        CHECK.due("fault(0) behind a load() that was none", x.fault(0), 4);
        CHECK.due("fault(1) behind a load() that was none", x.fault(1), 6);
        CHECK.due("fault(2)", x.fault(2), -1);
        CHECK.due("fault(-1)", x.fault(-1), -1);
        Meshes.load(x, "nodes 7;");
        CHECK.due("fault(0) without one", x.fault(0), 0);
        CHECK.due("fault(1) without one", x.fault(1), -1);
    }

    private static void loads(String text, int nodes) {
        ChosenRelays x = new ChosenRelays();
        CHECK.fine(x, "load of " + text, Meshes.load(x, text), nodes);
        CHECK.due("fault(0) of " + text, x.fault(0), 0);
        CHECK.due("fault(1) of " + text, x.fault(1), -1);
    }

    private static void faults(String text, int kind, int place) {
        ChosenRelays x = new ChosenRelays();
        CHECK.refused(x, "load of " + text, Meshes.load(x, text), 9);
        CHECK.due("fault(0) of " + text, x.fault(0), kind);
        CHECK.due("fault(1) of " + text, x.fault(1), place);
        CHECK.due("many(0) behind " + text, x.many(0), 0);
    }
}
