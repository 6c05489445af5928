/** The bounds of section 1's TEXT and of promises 3 to 5, sentence by sentence. */
public final class TextBoundsTest {
    private static final Check CHECK = new Check("TextBoundsTest");
    /** Ahead of a LINE, so that there are the NODES 0 and 1; eight bytes. */
    private static final String TWO = "nodes 2;";
    private static final String[] LINES = {"nodes 1 ;", "will 0 3 ;", "air 0 1 ;", "ear 0 1 ;", "off 0 ;", "every 2 ;",
        "hold 6 ;", "jam 0 1 1 ;"};

    public static void main(String[] args) {
        everyByteAlone();
        everyByteBetween();
        tokensAsLongAsTheyGo();
        wordsToTheLetter();
        blanksAreFree();
        linesThatEnd();
        linesWithAnotherToken();
        linesWithNoToken();
        linesTooLong();
        numbersOfNodes();
        numbersOfWills();
        numbersOfTwo();
        numbersOfEveryAndHold();
        numbersOfJams();
        nodesThatAreOff();
        nodesAsYet();
        toldAlready();
        theFirstAlongTheText();
        theLeastKindOfOneToken();
        fourHundredBytes();
        theFirstBytesOfTheTape();
        theHighestByteFirst();
        aNewMesh();
        faultsThatAreNone();
        CHECK.end();
    }

    private static void loads(String text, int nodes) {
        ChosenRelays x = new ChosenRelays();
        CHECK.fine(x, "load of " + text, Meshes.load(x, text), nodes);
        CHECK.due("fault(0) of " + text, x.fault(0), 0);
        CHECK.due("fault(1) of " + text, x.fault(1), -1);
    }

    private static void faults(String text, int kind, int place) {
        ChosenRelays x = new ChosenRelays();
        CHECK.refused(x, "load of " + text, Meshes.load(x, text), 9);
        CHECK.due("fault(0) of " + text, x.fault(0), kind);
        CHECK.due("fault(1) of " + text, x.fault(1), place);
        CHECK.due("the old mesh stays behind " + text, x.many(0), 0);
    }

    private static boolean isBlank(int sign) {
        return sign == 10 || sign == 32;
    }

    private static boolean beginsAToken(int sign) {
        return sign >= 'a' && sign <= 'z' || sign >= '0' && sign <= '9' || sign == ';';
    }

    /** "blanks (10, 32): WORDS (small letters), NUMBERS, the SIGN ;", "1 no TOKEN begins so", "2 it can't stand there". */
    private static void everyByteAlone() {
        for (int sign = 0; sign < 256; sign++) {
            String text = String.valueOf((char) sign);
            if (isBlank(sign)) {
                loads(text, 0);
                loads(TWO + text, 2);
            } else {
                faults(text, beginsAToken(sign) ? 2 : 1, 0);
                faults(TWO + text, beginsAToken(sign) ? 2 : 1, 8);
            }
        }
    }

    private static void everyByteBetween() {
        for (int sign = 0; sign < 256; sign++) {
            String text = "nodes" + (char) sign + "2;";
            if (isBlank(sign)) {
                loads(text, 2);
            } else if (sign >= 'a' && sign <= 'z') {
                faults(text, 2, 0);
            } else if (sign == '0') {
                loads(text, 2);
            } else if (sign >= '1' && sign <= '9') {
                faults(text, 4, 5);
            } else {
                faults(text, sign == ';' ? 2 : 1, 5);
            }
        }
    }

    /** "TOKENS, as long as they go", "NUMBERS (1 to 3 digits)", "a NUMBER of 4 digits and more: at its first". */
    private static void tokensAsLongAsTheyGo() {
        loads("nodes2;air0 1;", 2);
        loads("nodes 2;nodes 3;", 5);
        faults("nodes 2;air 01;", 2, 14);
        faults("nodesnodes 2;", 2, 0);
        faults("nodes 2;airy 0 1;", 2, 8);
        faults("nodes 2;ai 0 1;", 2, 8);
        faults("no des 2;", 2, 0);
        faults("n odes 2;", 2, 0);
        loads("nodes 2;", 2);
        loads("nodes 02;", 2);
        loads("nodes 002;", 2);
        faults("nodes 0002;", 1, 6);
        faults("nodes 00002;", 1, 6);
        faults("nodes 2222222222222222222222;", 1, 6);
        faults(TWO + "will 0 0003;", 1, 15);
        faults(TWO + "hold 999;", 4, 13);
        faults(TWO + "hold 1000;", 1, 13);
        faults(TWO + "hold 4294967298;", 1, 13);
        faults(TWO + "jam 0 1 0001", 1, 16);
    }

    /** Of each WORD each letter in turn is another one, one is missing, or one is too many. */
    private static void wordsToTheLetter() {
        for (String line : LINES) {
            String word = line.split(" ")[0];
            String rest = line.substring(word.length());
            for (int i = 0; i < word.length(); i++) {
                for (char other : new char[] {'a', 'q', 'z'}) {
                    String wrong = word.substring(0, i) + other + word.substring(i + 1);
                    if (!wrong.equals(word)) {
                        faults(TWO + wrong + rest, 2, 8);
                    }
                    faults(TWO + word.substring(0, i) + other + word.substring(i) + rest, 2, 8);
                }
                faults(TWO + word.substring(0, i) + word.substring(i + 1) + rest, 2, 8);
            }
            faults(TWO + word + "z" + rest, 2, 8);
        }
    }

    private static void blanksAreFree() {
        loads("", 0);
        loads(" ", 0);
        loads("\n", 0);
        loads(" \n \n ", 0);
        loads("  nodes\n\n2\n ;  \n", 2);
        loads("nodes 2;will 0 1;\nair 0\n1\n;ear 0 1 ; off 1 ;every 1;hold 1;jam 0 1 1;", 2);
    }

    /** "(the end: the text's length)": of each LINE its end ahead of each TOKEN but its first. */
    private static void linesThatEnd() {
        for (String line : LINES) {
            String[] tokens = line.split(" ");
            StringBuilder text = new StringBuilder(TWO);
            for (int i = 0; i < tokens.length; i++) {
                if (i == 0) {
                    loads(text.toString(), 2);
                } else {
                    faults(text.toString(), 2, text.length());
                    faults(text + "\n ", 2, text.length() + 2);
                }
                text.append(i == 0 ? "" : " ").append(tokens[i]);
            }
            loads(text.toString(), line.startsWith("nodes") ? 3 : 2);
        }
    }

    /** "2 it can't stand there": of each LINE each TOKEN in turn is one of another kind. */
    private static void linesWithAnotherToken() {
        for (String line : LINES) {
            String[] tokens = line.split(" ");
            int place = TWO.length();
            for (int i = 0; i < tokens.length; i++) {
                String ahead = TWO + line.substring(0, place - TWO.length());
                String behind = line.substring(place - TWO.length() + tokens[i].length());
                for (String other : new String[] {"1", "air", "x", "every", ";"}) {
                    boolean fits = i == 0 ? other.equals("air") || other.equals("every")
                        : i == tokens.length - 1 ? other.equals(";") : other.equals("1");
                    if (!fits) {
                        faults(ahead + other + behind, 2, place);
                    }
                }
                place += tokens[i].length() + 1;
            }
        }
    }

    private static void linesWithNoToken() {
        for (String line : LINES) {
            int place = TWO.length();
            for (String token : line.split(" ")) {
                String ahead = TWO + line.substring(0, place - TWO.length());
                for (String none : new String[] {"#", "A", "-1", "1000", "\t", "{", ".", "_", "\u00e4"}) {
                    faults(ahead + none + " ;", 1, place);
                }
                place += token.length() + 1;
            }
        }
    }

    private static void linesTooLong() {
        for (String line : LINES) {
            String shorter = line.substring(0, line.length() - 1);
            faults(TWO + shorter + "1;", 2, TWO.length() + shorter.length());
            faults(TWO + line + ";", 2, TWO.length() + line.length());
            faults(TWO + line + "1", 2, TWO.length() + line.length());
            faults(TWO + line + "x", 2, TWO.length() + line.length());
        }
    }

    /** "nodes: so many NODES more (1 to 8)", "6 more than 8 NODES (at that NUMBER)". */
    private static void numbersOfNodes() {
        for (int number = 0; number <= 11; number++) {
            for (int had = 0; had <= 8; had++) {
                String text = (had > 0 ? "nodes " + had + ";" : "       ") + " nodes " + number + ";";
                if (number == 0 || number > 8) {
                    faults(text, 4, had > 0 ? 15 : 14);
                } else if (had + number > 8) {
                    faults(text, 6, 15);
                } else {
                    loads(text, had + number);
                }
            }
        }
        faults("nodes 999;", 4, 6);
        faults("nodes 000;", 4, 6);
        loads("nodes 1;nodes 1;nodes 1;nodes 1;nodes 1;nodes 1;nodes 1;nodes 1;", 8);
        faults("nodes 1;nodes 1;nodes 1;nodes 1;nodes 1;nodes 1;nodes 1;nodes 1;nodes 1;", 6, 70);
    }

    /** "of a WILL (0 to 7; 3 without)". */
    private static void numbersOfWills() {
        for (int will = 0; will <= 7; will++) {
            ChosenRelays x = Meshes.of(TWO + "will 1 " + will + ";");
            CHECK.due("will 1 " + will, x.node(1, 1), will);
            CHECK.due("WILL without", x.node(0, 1), 3);
        }
        faults(TWO + "will 1 8;", 4, 15);
        faults(TWO + "will 1 10;", 4, 15);
        faults(TWO + "will 1 999;", 4, 15);
        faults(TWO + "will 2 0;", 3, 13);
        faults(TWO + "will 2 8;", 3, 13);
        faults(TWO + "will 999 0;", 3, 13);
        faults("will 0 0;", 3, 5);
        CHECK.due("the last WILL told", Meshes.of(TWO + "will 1 7;will 1 0;").node(1, 1), 0);
    }

    /** "3 no such NODE", "4 the second NODE is the first". */
    private static void numbersOfTwo() {
        for (String word : new String[] {"air", "ear", "jam"}) {
            String end = word.equals("jam") ? " 1;" : ";";
            loads(TWO + word + " 0 1" + end, 2);
            loads(TWO + word + " 1 0" + end, 2);
            faults(TWO + word + " 2 0" + end, 3, 12);
            faults(TWO + word + " 999 0" + end, 3, 12);
            faults(TWO + word + " 0 2" + end, 3, 14);
            faults(TWO + word + " 0 999" + end, 3, 14);
            faults(TWO + word + " 2 2" + end, 3, 12);
            faults(TWO + word + " 0 0" + end, 4, 14);
            faults(TWO + word + " 1 01" + end, 4, 14);
            faults("nodes 8;" + word + " 7 8" + end, 3, 14);
            loads("nodes 8;" + word + " 7 6" + end, 8);
        }
        // "each HEARS the other", "the second HEARS the first", and told twice it is so still
        ChosenRelays x = Meshes.of("nodes 3;air 0 1;air 0 1;air 1 0;ear 0 2;ear 0 2;");
        CHECK.due("0 HEARS 1", x.node(0, 9), 2);
        CHECK.due("1 HEARS 0", x.node(1, 9), 1);
        CHECK.due("2 HEARS 0", x.node(2, 9), 1);
        CHECK.due("ear leaves what air told", Meshes.of("nodes 2;air 0 1;ear 1 0;").node(1, 9), 1);
    }

    /** "EVERY (1 to 9; 2 without), HOLD (1 to 99; 6 without)". */
    private static void numbersOfEveryAndHold() {
        for (int much = 0; much <= 101; much++) {
            if (much >= 1 && much <= 9) {
                CHECK.due("every " + much, Meshes.of("every " + much + ";").many(3), much);
            } else {
                faults("every " + much + ";", 4, 6);
            }
            if (much >= 1 && much <= 99) {
                CHECK.due("hold " + much, Meshes.of("hold " + much + ";").many(4), much);
            } else {
                faults("hold " + much + ";", 4, 5);
            }
        }
        CHECK.due("EVERY without", Meshes.of(TWO).many(3), 2);
        CHECK.due("HOLD without", Meshes.of(TWO).many(4), 6);
    }

    /** "jam: from a NODE to another one, 1 to 99 TICKS", "(0 without)". */
    private static void numbersOfJams() {
        for (int ticks = 1; ticks <= 99; ticks += 49) {
            ChosenRelays x = Meshes.of(TWO + "jam 0 1 " + ticks + ";");
            CHECK.due("jam 0 1 " + ticks, x.link(1, 0, 5), ticks);
            CHECK.due("the other way", x.link(0, 1, 5), 0);
        }
        CHECK.due("the last JAM told", Meshes.of(TWO + "jam 0 1 9;jam 0 1 1;").link(1, 0, 5), 1);
        faults(TWO + "jam 0 1 0;", 4, 16);
        faults(TWO + "jam 0 1 000;", 4, 16);
        faults(TWO + "jam 0 1 100;", 4, 16);
        faults(TWO + "jam 0 1 999;", 4, 16);
    }

    /** "off: a NODE is OFF", "5 it is OFF already (at that NUMBER)". */
    private static void nodesThatAreOff() {
        ChosenRelays x = Meshes.of("nodes 8;off 0;off 7;");
        CHECK.due("off 0 and 7", x.many(1), 126);
        faults(TWO + "off 0;off 0;", 5, 18);
        faults(TWO + "off 0;off 1;off 0;", 5, 24);
        faults(TWO + "off 0;nodes 1;off 000;", 5, 26);
        faults(TWO + "off 2;", 3, 12);
        faults(TWO + "off 999;", 3, 12);
        faults("off 0;", 3, 4);
        loads(TWO + "off 0;off 1;", 2);
        loads("nodes 1;off 0;will 0 1;nodes 1;air 0 1;jam 0 1 1;", 2);
    }

    /** "3 no such NODE, as yet". */
    private static void nodesAsYet() {
        faults("nodes 1;will 1 3;nodes 1;", 3, 13);
        faults("nodes 1;air 0 1;nodes 1;", 3, 14);
        faults("nodes 1;ear 1 0;nodes 1;", 3, 12);
        faults("nodes 1;off 1;nodes 1;", 3, 12);
        faults("nodes 1;jam 0 1 1;nodes 1;", 3, 14);
        loads("nodes 1;nodes 1;will 1 3;", 2);
    }

    /** "5 every, hold told already (at that WORD)". */
    private static void toldAlready() {
        faults("every 2;every 2;", 5, 8);
        faults("hold 6;hold 6;", 5, 7);
        faults("every 2;hold 6;every 3;", 5, 15);
        faults("hold 6;every 2;nodes 1; hold 7;", 5, 24);
        faults("every 2;every", 5, 8);
        faults("every 2;every x", 5, 8);
        faults("hold 6;hold 0;", 5, 7);
        loads("every 2;hold 6;", 0);
        loads("hold 6;every 2;", 0);
        // told in a text ahead of this one
        ChosenRelays x = Meshes.of("every 9;hold 99;");
        CHECK.fine(x, "every and hold anew", Meshes.load(x, "every 8;hold 9;"), 0);
        CHECK.due("EVERY", x.many(3), 8);
        Meshes.load(x, "every 1;hold 0;");
        CHECK.fine(x, "every and hold behind a FAULT", Meshes.load(x, "every 7;hold 8;"), 0);
        CHECK.due("HOLD", x.many(4), 8);
    }

    /** "FAULTS, the first along the text": what is behind it does not count, be its kind less or not. */
    private static void theFirstAlongTheText() {
        faults("nodes 9;#", 4, 6);
        faults("nodes 9 #", 4, 6);
        faults("nodes 9", 4, 6);
        faults("nodes 8;nodes 1 1000", 6, 14);
        faults("off 0;air", 3, 4);
        faults("nodes 1;off 0;off 0 0;", 5, 18);
        faults("every 1;every 0#", 5, 8);
        faults("# nodes 9;", 1, 0);
        faults("nodes 2;air 0 0 #", 4, 14);
        faults("nodes 2;air 2 #", 3, 12);
        faults("x #", 2, 0);
        faults("nodes # 9;", 1, 6);
    }

    /** "(of one TOKEN the least kind)". */
    private static void theLeastKindOfOneToken() {
        // a NUMBER of four digits where none can stand
        faults("1000 nodes", 1, 0);
        faults("nodes 1 1000", 1, 8);
        // a WORD told already where none can stand
        faults("every 1;every", 5, 8);
        faults("every 1;hold every", 2, 13);
        faults("every 1;hold 1 every", 2, 15);
        // a NUMBER that can't be, and more than 8 NODES too
        faults("nodes 8;nodes 9;", 4, 14);
        faults("nodes 8;nodes 999;", 4, 14);
        // a NODE that is OFF already where no NUMBER can stand
        faults("nodes 1;off 0;off 0 0;", 5, 18);
        faults("nodes 1;off 0;0;", 2, 14);
        faults("nodes 1;off 0;off;", 2, 17);
        // a NODE that there is not, twice
        faults("nodes 2;jam 2 2 0;", 3, 12);
    }

    /** "a TEXT of at most 400 bytes", "NONE if there would be more than 400". */
    private static void fourHundredBytes() {
        String text = "nodes 8;" + "air 0 1;".repeat(47) + "ear 6 7;" + "every 9;";
        ChosenRelays x = new ChosenRelays();
        CHECK.due("feed() of 400", Meshes.feed(x, text), 400);
        CHECK.due("feed() beyond 400", x.feed(-1, -1, -1, -1, -1), -1);
        CHECK.due("feed() beyond 400 again", x.feed(0, 0, 0, 0, 0), -1);
        CHECK.refused(x, "load(401)", x.load(401), 1);
        CHECK.fine(x, "load(400)", x.load(400), 8);
        CHECK.due("EVERY of the last LINE", x.many(3), 9);
        CHECK.due("the LINE ahead of it", x.node(7, 9), 64);
        CHECK.due("feed() anew", x.feed(0, 0, 0, 0, 0), 20);

        String allButOne = text.substring(0, 399);
        faults(allButOne + "#", 1, 399);
        faults(allButOne + "x", 2, 399);
        faults(allButOne + " ", 2, 400);
        faults(allButOne + "\n", 2, 400);
        faults(allButOne, 2, 399);
        faults(text.substring(0, 392) + "every 10", 4, 398);
        // the most TOKENS and LINES that there can be
        loads("nodes2;" + "off0;" + "will0 1;".repeat(48) + "   ", 2);
        faults(";".repeat(400), 2, 0);
        faults("1".repeat(400), 1, 0);
        faults("a".repeat(400), 2, 0);
        loads("\n".repeat(400), 0);
        // feed() at each length up to 400
        x = new ChosenRelays();
        for (int i = 20; i <= 400; i += 20) {
            CHECK.due("feed() to " + i, x.feed(0x20202020, 0x20202020, 0x20202020, 0x20202020, 0x20202020), i);
        }
        CHECK.due("feed() beyond 400", x.feed(0, 0, 0, 0, 0), -1);
        CHECK.fine(x, "load(400) of blanks", x.load(400), 0);
    }

    /** "The first n bytes of the tape (which is empty then) are the MESH". */
    private static void theFirstBytesOfTheTape() {
        String text = "nodes 2;nodes 3;#";
        int[] nodes = {0, -1, -1, -1, -1, -1, -1, -1, 2, -1, -1, -1, -1, -1, -1, -1, 5, -1};
        int[] places = {-1, 0, 0, 0, 0, 5, 6, 7, -1, 8, 8, 8, 8, 13, 14, 15, -1, 16};
        for (int n = 0; n < nodes.length; n++) {
            ChosenRelays x = new ChosenRelays();
            Meshes.feed(x, text);
            CHECK.due("load(" + n + ")", x.load(n), nodes[n]);
            CHECK.due("status() of load(" + n + ")", x.status(), nodes[n] < 0 ? 9 : 0);
            CHECK.due("fault(1) of load(" + n + ")", x.fault(1), places[n]);
            CHECK.refused(x, "load(1) of the empty tape", x.load(1), 1);
            CHECK.due("feed() on the empty tape", x.feed(0, 0, 0, 0, 0), 20);
        }
        // more bytes come behind those on the tape
        ChosenRelays x = new ChosenRelays();
        Meshes.feed(x, "nodes 2;            ");
        Meshes.feed(x, "nodes 3;            ");
        CHECK.refused(x, "load(41)", x.load(41), 1);
        CHECK.fine(x, "load(40)", x.load(40), 5);
        CHECK.refused(x, "load(-1)", x.load(-1), 1);
        CHECK.fine(x, "load(0)", x.load(0), 0);
    }

    /** "Twenty bytes, the highest of each int first". */
    private static void theHighestByteFirst() {
        for (int at = 0; at < 20; at++) {
            for (int sign : new int[] {0x80, 0xff, 0x7f, 1}) {
                int[] words = {0x20202020, 0x20202020, 0x20202020, 0x20202020, 0x20202020};
                int shift = 24 - at % 4 * 8;
                words[at / 4] = words[at / 4] & ~(0xff << shift) | sign << shift;
                ChosenRelays x = new ChosenRelays();
                CHECK.due("feed()", x.feed(words[0], words[1], words[2], words[3], words[4]), 20);
                CHECK.refused(x, "load(20), " + sign + " at " + at, x.load(20), 9);
                CHECK.due("fault(0)", x.fault(0), 1);
                CHECK.due("fault(1)", x.fault(1), at);
            }
        }
    }

    /** "With a new MESH: TICK 0, ..": with what was there before, ON PAPER too, all gone. */
    private static void aNewMesh() {
        String text = "nodes 4;air 0 1;air 1 2;ear 2 3;will 3 0;off 3;hold 7;jam 0 1 3;";
        ChosenRelays y = Meshes.of(text);
        String nodes = Snapshot.nodes(y);
        String links = Snapshot.links(Meshes.of(text));
        String topologies = Snapshot.topologies(Meshes.of(text));
        CHECK.due("RISE", y.many(9), 700);
        CHECK.due("FALL", y.many(10), 300);
        ChosenRelays x = used();
        Meshes.load(x, text);
        CHECK.due("the nodes", Snapshot.nodes(x).equals(nodes), true);
        x = used();
        Meshes.load(x, text);
        CHECK.due("the links", Snapshot.links(x).equals(links), true);
        x = used();
        Meshes.load(x, text);
        CHECK.due("the topologies", Snapshot.topologies(x).equals(topologies), true);
        x = used();
        CHECK.refused(x, "notice(0, 0) is there", Meshes.load(x, "") + x.notice(0, 0), 7);
        for (int i = 0; i < 8; i++) {
            CHECK.fine(x, "add(3)", x.add(3), i);
            for (int what = 2; what < 10; what++) {
                CHECK.due("a new one's node(" + i + ", " + what + ")", x.node(i, what), 0);
            }
        }
    }

    /** A mesh of eight of which all is in use, ON PAPER too. */
    private static ChosenRelays used() {
        ChosenRelays x = Meshes.of("nodes 8;air 0 1;air 1 2;air 2 3;air 3 4;air 4 5;air 5 6;air 6 7;will 2 7;will 5 6;"
            + "every 1;hold 50;jam 7 0 99;");
        x.tick(30);
        x.set(2, 900);
        x.set(3, 100);
        x.echo(0, 3, 0, 255);
        x.echo(7, 0, 15, 255);
        x.settles();
        x.mends(2);
        x.bestWill(3);
        return x;
    }

    /** "Of the latest load() with STATUS 0 or 9 .. NONE for others, and ahead of any". */
    private static void faultsThatAreNone() {
        ChosenRelays x = new ChosenRelays();
        for (int what : new int[] {-1, 0, 1, 2, Integer.MIN_VALUE, Integer.MAX_VALUE}) {
            CHECK.due("fault(" + what + ") ahead of any", x.fault(what), -1);
        }
        x.load(1);
        CHECK.due("fault(0), no load() had STATUS 0 or 9", x.fault(0), -1);
        x.load(0);
        CHECK.due("fault(0) of an empty text", x.fault(0), 0);
        CHECK.due("fault(1) of an empty text", x.fault(1), -1);
        Meshes.load(x, " x");
        for (int round = 0; round < 2; round++) {
            CHECK.due("fault(0)", x.fault(0), 2);
            CHECK.due("fault(1)", x.fault(1), 1);
            for (int what : new int[] {-1, 2, Integer.MIN_VALUE, Integer.MAX_VALUE}) {
                CHECK.due("fault(" + what + ")", x.fault(what), -1);
            }
            x.load(21);
        }
        Meshes.load(x, "\n");
        CHECK.due("fault(0) of a text without one", x.fault(0), 0);
        CHECK.due("fault(1) of a text without one", x.fault(1), -1);
    }
}
