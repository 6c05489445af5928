import java.util.Arrays;

/** A mesh whose nodes choose relays, flood notices by them and find routes by what they were told. */
public final class ChosenRelays {

    public static final int NONE = -1;

    private static final int MOST_NODES = 8;
    private static final int CELLS = MOST_NODES * MOST_NODES;
    private static final int MOST_BYTES = 400;
    private static final int FED_BYTES = 20;
    private static final int MOST_MARKS = 4;
    private static final int MOST_NOTICES = 16;
    private static final int NOTICE_CELLS = 4;
    private static final int MOST_WILL = 7;
    private static final int MOST_QUALITY = 999;
    private static final int MOST_EVERY = 9;
    private static final int MOST_HOLD = 99;
    private static final int MOST_JAM = 99;
    private static final int MOST_TICKS = 200;
    private static final int MOST_PAPER_TICKS = 120;
    private static final int MOST_SEED = 9999;
    private static final int MOST_HELLOS = 30;
    private static final int NUMBERS = 16;
    private static final int MILLION = 1000000;

    private static final int FINE = 0;
    private static final int BAD_NUMBER = 1;
    private static final int NO_NODE = 2;
    private static final int ONE_NODE = 3;
    private static final int NODE_OFF = 4;
    private static final int TOO_MANY = 5;
    private static final int IS_SO = 6;
    private static final int IS_NONE = 7;
    private static final int COMES_TO_NOTHING = 8;
    private static final int HAS_FAULT = 9;

    private final byte[] tape;
    private int taped;
    private int status;
    private int faultKind;
    private int faultPlace;
    private final Mesh mesh;
    /** Where a text is read, and where all that goes ON PAPER goes, so that the mesh stays as it is. */
    private final Mesh paper;
    private final Mesh[] marks;
    private int marked;
    private final Reader reader;
    private final Choice choice;
    private final Routes routes;
    private final Going going;
    private final Truth truth;
    private final Flood spread;
    private final Losses losses;
    private final Ticker ticker;

    public ChosenRelays() {
        tape = new byte[MOST_BYTES];
        faultKind = NONE;
        faultPlace = NONE;
        mesh = new Mesh();
        paper = new Mesh();
        marks = new Mesh[MOST_MARKS];
        for (int i = 0; i < MOST_MARKS; i++) {
            marks[i] = new Mesh();
        }
        reader = new Reader();
        choice = new Choice();
        routes = new Routes();
        going = new Going();
        truth = new Truth();
        spread = new Flood();
        losses = new Losses();
        ticker = new Ticker(choice, spread);
    }

    public int status() {
        return status;
    }

    // ---- the text

    public int feed(int a, int b, int c, int d, int e) {
        if (taped > MOST_BYTES - FED_BYTES) {
            return NONE;
        }
        putOnTape(a);
        putOnTape(b);
        putOnTape(c);
        putOnTape(d);
        putOnTape(e);
        return taped;
    }

    public int load(int n) {
        if (fails(rangeStatus(n, 0, taped))) {
            return NONE;
        }
        reader.read(tape, n, paper);
        taped = 0;
        faultKind = reader.faultKind;
        faultPlace = reader.faultPlace;
        if (fails(faultKind != FINE ? HAS_FAULT : FINE)) {
            return NONE;
        }
        mesh.become(paper);
        return mesh.count;
    }

    public int fault(int what) {
        switch (what) {
            case 0:
                return faultKind;
            case 1:
                return faultPlace;
            default:
                return NONE;
        }
    }

    // ---- what there is

    public int many(int what) {
        if (fails(rangeStatus(what, 0, 10))) {
            return NONE;
        }
        switch (what) {
            case 0:
                return mesh.count;
            case 1:
                return mesh.on;
            case 2:
                return mesh.ticks;
            case 3:
                return mesh.every;
            case 4:
                return mesh.hold;
            case 5:
                return mesh.news.notices;
            case 6:
                return mesh.news.sendings;
            case 7:
                return mesh.news.olds;
            case 8:
                return marked;
            case 9:
                return mesh.rise;
            default:
                return mesh.fall;
        }
    }

    public int node(int node, int what) {
        if (fails(firstOf(rangeStatus(what, 0, 9), nodeStatus(node)))) {
            return NONE;
        }
        switch (what) {
            case 0:
                return asNumber(mesh.isOn(node));
            case 1:
                return mesh.wills[node];
            case 2:
                return mesh.news.ownNumbers[node];
            case 3:
                return mesh.links.ups[node];
            case 4:
                return mesh.links.neighbours[node];
            case 5:
                return Choice.behind(mesh, node);
            case 6:
                return mesh.links.relays[node];
            case 7:
                return mesh.links.choosers[node];
            case 8:
                return mesh.news.ownSets[node];
            default:
                return mesh.hears[node];
        }
    }

    public int link(int node, int other, int what) {
        if (fails(firstOf(rangeStatus(what, 0, 5), pairStatus(node, other)))) {
            return NONE;
        }
        switch (what) {
            case 0:
                return mesh.links.qualities[Mesh.at(node, other)];
            case 1:
                return asNumber(Mesh.has(mesh.links.ups[node], other));
            case 2:
                return asNumber(Mesh.has(mesh.links.neighbours[node], other));
            case 3:
                return mesh.links.knowns[Mesh.at(node, other)];
            case 4:
                return asNumber(Mesh.has(mesh.links.choosers[node], other));
            default:
                return mesh.jams[Mesh.at(node, other)];
        }
    }

    public int topology(int node, int other, int what) {
        if (fails(firstOf(rangeStatus(what, 0, 2), pairStatus(node, other)))) {
            return NONE;
        }
        int cell = Mesh.at(node, other);
        if (fails(mesh.news.lefts[cell] == 0 ? IS_NONE : FINE)) {
            return NONE;
        }
        switch (what) {
            case 0:
                return mesh.news.sets[cell];
            case 1:
                return mesh.news.numbers[cell];
            default:
                return mesh.news.lefts[cell];
        }
    }

    // ---- relays

    public int would(int node) {
        return fails(nodeStatus(node)) ? NONE : choice.chosen(mesh, node);
    }

    public int pick(int node, int i) {
        if (fails(firstOf(i < 0 ? BAD_NUMBER : FINE, nodeStatus(node)))) {
            return NONE;
        }
        choice.chosen(mesh, node);
        if (fails(i >= choice.pickedCount || i >= MOST_NODES ? IS_NONE : FINE)) {
            return NONE;
        }
        return choice.picked[i];
    }

    public int bestWill(int node) {
        if (fails(nodeStatus(node))) {
            return NONE;
        }
        paper.become(mesh);
        int best = 0;
        int fewest = 0;
        for (int will = 0; will <= MOST_WILL; will++) {
            paper.wills[node] = will;
            int relays = choice.chosenByAll(paper);
            if (will == 0 || relays < fewest) {
                best = will;
                fewest = relays;
            }
        }
        return best;
    }

    public int least(int node) {
        return fails(nodeStatus(node)) ? NONE : Choice.fewest(mesh, node);
    }

    public int covers(int node, int set) {
        if (fails(firstOf(setStatus(set), nodeStatus(node)))) {
            return NONE;
        }
        int counted = set & mesh.links.neighbours[node];
        return Choice.behind(mesh, node) & Choice.knownOf(mesh, node, counted);
    }

    public int needed(int node) {
        if (fails(nodeStatus(node))) {
            return NONE;
        }
        return Choice.onlyWays(mesh, node, mesh.links.relays[node], Choice.behind(mesh, node));
    }

    public int waste() {
        status = FINE;
        int more = 0;
        for (int node = 0; node < mesh.count; node++) {
            if (mesh.isOn(node)) {
                more += Integer.bitCount(mesh.links.relays[node]) - Integer.bitCount(Choice.fewest(mesh, node));
            }
        }
        return more;
    }

    // ---- routes

    public int route(int node, int other, int what) {
        if (fails(firstOf(rangeStatus(what, 0, 1), pairStatus(node, other)))) {
            return NONE;
        }
        routes.find(mesh, node);
        int steps = routes.steps[Mesh.at(node, other)];
        if (fails(steps == 0 ? IS_NONE : FINE)) {
            return NONE;
        }
        return what == 0 ? steps : routes.nexts[Mesh.at(node, other)];
    }

    public int table(int node) {
        if (fails(nodeStatus(node))) {
            return NONE;
        }
        routes.find(mesh, node);
        int reached = 0;
        for (int other = 0; other < mesh.count; other++) {
            reached = Mesh.with(reached, other, routes.steps[Mesh.at(node, other)] > 0);
        }
        return reached;
    }

    public int goes(int from, int to, int what) {
        if (fails(firstOf(rangeStatus(what, 0, 2), goingStatus(from, to)))) {
            return NONE;
        }
        routes.findAll(mesh);
        going.follow(mesh, routes, from, to);
        switch (what) {
            case 0:
                return going.ending;
            case 1:
                return going.steps;
            default:
                return going.end();
        }
    }

    public int far(int from, int to) {
        int off = isOff(from) || isOff(to) ? NODE_OFF : FINE;
        if (fails(firstOf(pairStatus(from, to), off))) {
            return NONE;
        }
        truth.see(mesh);
        int steps = truth.steps[Mesh.at(from, to)];
        return fails(steps == 0 ? IS_NONE : FINE) ? NONE : steps;
    }

    public int wrong(int node, int what) {
        int off = isOff(node) ? NODE_OFF : FINE;
        if (fails(firstOf(firstOf(rangeStatus(what, 0, 2), nodeStatus(node)), off))) {
            return NONE;
        }
        truth.see(mesh);
        routes.find(mesh, node);
        int found = 0;
        for (int other = 0; other < mesh.count; other++) {
            found = Mesh.with(found, other, isWrong(Mesh.at(node, other), what));
        }
        return found;
    }

    public int told() {
        status = FINE;
        return asNumber(allIsTold(mesh));
    }

    public int settles() {
        paper.become(mesh);
        int ticks = ticksTillTold();
        return fails(ticks == NONE ? COMES_TO_NOTHING : FINE) ? NONE : ticks;
    }

    public int path(int from, int to, int i) {
        if (fails(firstOf(i < 0 ? BAD_NUMBER : FINE, goingStatus(from, to)))) {
            return NONE;
        }
        routes.findAll(mesh);
        going.follow(mesh, routes, from, to);
        return fails(i > going.steps || i > MOST_NODES ? IS_NONE : FINE) ? NONE : going.nodes[i];
    }

    public int busy(int node) {
        if (fails(nodeStatus(node))) {
            return NONE;
        }
        routes.findAll(mesh);
        int found = 0;
        for (int cell = 0; cell < CELLS; cell++) {
            int from = cell / MOST_NODES;
            int to = cell % MOST_NODES;
            if (from != to && from != node && to != node && mesh.isOn(from) && mesh.isOn(to)) {
                going.follow(mesh, routes, from, to);
                found += asNumber(going.ending == Going.THERE && Mesh.has(going.been, node));
            }
        }
        return found;
    }

    public int sure(int from, int to) {
        if (fails(goingStatus(from, to))) {
            return NONE;
        }
        routes.findAll(mesh);
        going.follow(mesh, routes, from, to);
        if (fails(going.ending != Going.THERE ? COMES_TO_NOTHING : FINE)) {
            return NONE;
        }
        int millionths = MILLION;
        for (int i = 0; i < going.steps && i < MOST_NODES; i++) {
            int quality = mesh.links.qualities[Mesh.at(going.nodes[i + 1], going.nodes[i])];
            millionths = millionths * quality / MOST_QUALITY;
        }
        return millionths;
    }

    public int astray(int what) {
        if (fails(rangeStatus(what, 0, 2))) {
            return NONE;
        }
        routes.findAll(mesh);
        truth.see(mesh);
        int found = 0;
        for (int cell = 0; cell < CELLS; cell++) {
            int from = cell / MOST_NODES;
            int to = cell % MOST_NODES;
            if (from != to && mesh.isOn(from) && mesh.isOn(to)) {
                going.follow(mesh, routes, from, to);
                found += asNumber(isAstray(truth.steps[cell], what));
            }
        }
        return found;
    }

    public int proves(int node, int other, int heard, int n, int what) {
        int bad = firstOf(rangeStatus(n, 1, MOST_HELLOS), rangeStatus(what, 0, 2));
        if (fails(firstOf(bad, pairStatus(node, other)))) {
            return NONE;
        }
        int quality = mesh.links.qualities[Mesh.at(node, other)];
        boolean up = Mesh.has(mesh.links.ups[node], other);
        int turns = 0;
        for (int i = 0; i < n; i++) {
            quality = Links.qualityAfter(quality, Mesh.has(heard, i));
            boolean upNow = mesh.isUpAt(quality, up);
            turns += asNumber(upNow != up);
            up = upNow;
        }
        switch (what) {
            case 0:
                return quality;
            case 1:
                return asNumber(up);
            default:
                return turns;
        }
    }

    public int spine(int what) {
        if (fails(rangeStatus(what, 0, 2))) {
            return NONE;
        }
        truth.see(mesh);
        switch (what) {
            case 0:
                return relaysOfAll();
            case 1:
                return asNumber(truth.isBack(relaysOfAll()));
            default:
                return truth.smallestBack();
        }
    }

    public int cuts() {
        status = FINE;
        truth.see(mesh);
        int found = 0;
        for (int node = 0; node < mesh.count; node++) {
            found = Mesh.with(found, node, mesh.isOn(node) && truth.isCut(node));
        }
        return found;
    }

    public int mends(int node) {
        if (fails(nodeStatus(node))) {
            return NONE;
        }
        paper.become(mesh);
        paper.on = Mesh.with(paper.on, node, !mesh.isOn(node));
        int ticks = ticksTillTold();
        return fails(ticks == NONE ? COMES_TO_NOTHING : FINE) ? NONE : ticks;
    }

    // ---- floods

    public int flood(int node, int what) {
        int off = isOff(node) ? NODE_OFF : FINE;
        if (fails(firstOf(firstOf(rangeStatus(what, 0, 3), nodeStatus(node)), off))) {
            return NONE;
        }
        losses.begin(0, 0);
        spread.send(mesh, node, what < 2 ? Flood.ON_PAPER : Flood.BLIND, losses);
        return what % 2 == 0 ? spread.got : spread.sent;
    }

    public int notice(int i, int what) {
        if (fails(firstOf(rangeStatus(i, 0, MOST_NOTICES - 1), rangeStatus(what, 0, NOTICE_CELLS - 1)))) {
            return NONE;
        }
        return fails(i >= mesh.news.notices ? IS_NONE : FINE) ? NONE : mesh.news.written(i, what);
    }

    public int older(int a, int b) {
        if (fails(firstOf(rangeStatus(a, 0, NUMBERS - 1), rangeStatus(b, 0, NUMBERS - 1)))) {
            return NONE;
        }
        return asNumber(News.isOlder(a, b));
    }

    public int echo(int node, int other, int number, int set) {
        int bad = firstOf(rangeStatus(number, 0, NUMBERS - 1), setStatus(set));
        int off = isOff(node) ? NODE_OFF : FINE;
        if (fails(firstOf(firstOf(bad, pairStatus(node, other)), off))) {
            return NONE;
        }
        return asNumber(mesh.news.takeIn(Mesh.at(node, other), number, set, mesh.hold));
    }

    // ---- what is done

    public int add(int will) {
        int full = mesh.count >= MOST_NODES ? TOO_MANY : FINE;
        if (fails(firstOf(rangeStatus(will, 0, MOST_WILL), full))) {
            return NONE;
        }
        mesh.addNode(will);
        return mesh.count - 1;
    }

    public boolean turn(int node, boolean on) {
        int so = mesh.isOn(node) == on ? IS_SO : FINE;
        if (fails(firstOf(nodeStatus(node), so))) {
            return false;
        }
        mesh.on = Mesh.with(mesh.on, node, on);
        return true;
    }

    public int will(int node, int will) {
        if (fails(firstOf(rangeStatus(will, 0, MOST_WILL), nodeStatus(node)))) {
            return NONE;
        }
        int had = mesh.wills[node];
        mesh.wills[node] = will;
        return had;
    }

    public boolean ear(int first, int second, boolean hears) {
        if (fails(pairStatus(first, second))) {
            return false;
        }
        if (fails(Mesh.has(mesh.hears[second], first) == hears ? IS_SO : FINE)) {
            return false;
        }
        mesh.hears[second] = Mesh.with(mesh.hears[second], first, hears);
        return true;
    }

    public int set(int what, int much) {
        if (fails(firstOf(rangeStatus(what, 0, 3), settingStatus(what, much)))) {
            return NONE;
        }
        int was;
        switch (what) {
            case 0:
                was = mesh.every;
                mesh.every = much;
                return was;
            case 1:
                was = mesh.hold;
                mesh.hold = much;
                return was;
            case 2:
                was = mesh.rise;
                mesh.rise = much;
                return was;
            default:
                was = mesh.fall;
                mesh.fall = much;
                return was;
        }
    }

    public int jam(int first, int second, int ticks) {
        if (fails(firstOf(rangeStatus(ticks, 0, MOST_JAM), pairStatus(first, second)))) {
            return NONE;
        }
        int cell = Mesh.at(second, first);
        int had = mesh.jams[cell];
        mesh.jams[cell] = ticks;
        return had;
    }

    public int tick(int many) {
        if (fails(rangeStatus(many, 1, MOST_TICKS))) {
            return NONE;
        }
        losses.begin(0, 0);
        for (int i = 0; i < many; i++) {
            ticker.step(mesh, losses);
        }
        return mesh.ticks;
    }

    public int run(int ticks, int seed, int loss) {
        int bad = firstOf(rangeStatus(ticks, 1, MOST_TICKS), rangeStatus(seed, 0, MOST_SEED));
        if (fails(firstOf(bad, rangeStatus(loss, 0, Losses.SIDES)))) {
            return NONE;
        }
        losses.begin(seed, loss);
        for (int i = 0; i < ticks; i++) {
            ticker.step(mesh, losses);
        }
        return losses.lost;
    }

    public int mark() {
        if (fails(marked >= MOST_MARKS ? TOO_MANY : FINE)) {
            return NONE;
        }
        marks[marked].become(mesh);
        marked++;
        return marked;
    }

    public int back() {
        if (fails(marked <= 0 ? IS_NONE : FINE)) {
            return NONE;
        }
        marked--;
        mesh.become(marks[marked]);
        return marked;
    }

    // ---- what a call's STATUS is

    private boolean fails(int why) {
        status = why;
        return why != FINE;
    }

    private static int firstOf(int first, int second) {
        return first != FINE ? first : second;
    }

    private static int rangeStatus(int number, int from, int to) {
        return number < from || number > to ? BAD_NUMBER : FINE;
    }

    private int nodeStatus(int node) {
        return mesh.isNode(node) ? FINE : NO_NODE;
    }

    private int pairStatus(int node, int other) {
        if (!mesh.isNode(node) || !mesh.isNode(other)) {
            return NO_NODE;
        }
        return node == other ? ONE_NODE : FINE;
    }

    private int goingStatus(int from, int to) {
        return firstOf(pairStatus(from, to), isOff(from) ? NODE_OFF : FINE);
    }

    private int setStatus(int set) {
        return rangeStatus(set, 0, (1 << mesh.count) - 1);
    }

    private int settingStatus(int what, int much) {
        switch (what) {
            case 0:
                return rangeStatus(much, 1, MOST_EVERY);
            case 1:
                return rangeStatus(much, 1, MOST_HOLD);
            case 2:
                return rangeStatus(much, Math.max(1, mesh.fall), MOST_QUALITY);
            default:
                return rangeStatus(much, 0, mesh.rise);
        }
    }

    private boolean isOff(int node) {
        return mesh.isNode(node) && !mesh.isOn(node);
    }

    // ---- what several calls share

    private static int asNumber(boolean is) {
        return is ? 1 : 0;
    }

    private void putOnTape(int four) {
        for (int shift = 24; shift >= 0 && taped < MOST_BYTES; shift -= 8) {
            tape[taped] = (byte) (four >> shift);
            taped++;
        }
    }

    private boolean isWrong(int cell, int what) {
        int steps = routes.steps[cell];
        int fewest = truth.steps[cell];
        switch (what) {
            case 0:
                return steps == 0 && fewest > 0;
            case 1:
                return fewest > 0 && steps > fewest;
            default:
                return steps > 0 && (fewest == 0 || steps < fewest);
        }
    }

    private boolean isAstray(int fewest, int what) {
        switch (what) {
            case 0:
                return going.ending == Going.LOST;
            case 1:
                return going.ending == Going.ROUND;
            default:
                return going.ending == Going.THERE && (fewest == 0 || going.steps > fewest);
        }
    }

    private boolean allIsTold(Mesh of) {
        truth.see(of);
        for (int node = 0; node < of.count; node++) {
            if (of.isOn(node)) {
                routes.find(of, node);
                for (int other = 0; other < of.count; other++) {
                    if (routes.steps[Mesh.at(node, other)] != truth.steps[Mesh.at(node, other)]) {
                        return false;
                    }
                }
            }
        }
        return true;
    }

    /** Lets ticks go by on the paper. */
    private int ticksTillTold() {
        losses.begin(0, 0);
        for (int ticks = 0; ticks <= MOST_PAPER_TICKS; ticks++) {
            if (allIsTold(paper)) {
                return ticks;
            }
            ticker.step(paper, losses);
        }
        return NONE;
    }

    private int relaysOfAll() {
        int relays = 0;
        for (int node = 0; node < mesh.count; node++) {
            if (mesh.isOn(node)) {
                relays |= mesh.links.relays[node];
            }
        }
        return relays & mesh.on;
    }

    /** All that a mark keeps. What nobody has as yet is 0, so that a node more finds it so. */
    private static final class Mesh {
        int count;
        int on;
        int ticks;
        int every;
        int hold;
        int rise;
        int fall;
        final int[] wills;
        final int[] hears;
        /** Of a node's cell for another one: how long a JAM from that one to it lasts. */
        final int[] jams;
        final Links links;
        final News news;

        Mesh() {
            wills = new int[MOST_NODES];
            hears = new int[MOST_NODES];
            jams = new int[CELLS];
            links = new Links();
            news = new News();
            clear();
        }

        static int at(int node, int other) {
            return node * MOST_NODES + other;
        }

        static int bit(int node) {
            return 1 << node;
        }

        static boolean has(int set, int node) {
            return (set >> node & 1) != 0;
        }

        static int with(int set, int node, boolean in) {
            return in ? set | 1 << node : set & ~(1 << node);
        }

        void clear() {
            count = 0;
            on = 0;
            ticks = 0;
            every = 2;
            hold = 6;
            rise = 700;
            fall = 300;
            Arrays.fill(wills, 0);
            Arrays.fill(hears, 0);
            Arrays.fill(jams, 0);
            links.clear();
            news.clear();
        }

        void become(Mesh other) {
            count = other.count;
            on = other.on;
            ticks = other.ticks;
            every = other.every;
            hold = other.hold;
            rise = other.rise;
            fall = other.fall;
            System.arraycopy(other.wills, 0, wills, 0, MOST_NODES);
            System.arraycopy(other.hears, 0, hears, 0, MOST_NODES);
            System.arraycopy(other.jams, 0, jams, 0, CELLS);
            links.become(other.links);
            news.become(other.news);
        }

        boolean isNode(int node) {
            return node >= 0 && node < count;
        }

        boolean isOn(int node) {
            return isNode(node) && has(on, node);
        }

        void addNode(int will) {
            if (count < MOST_NODES) {
                wills[count] = will;
                on |= bit(count);
                count++;
            }
        }

        /** Whether what another node sends now comes to a node, if it is not lost. */
        boolean comesTo(int node, int sender) {
            return has(on, node) && has(on, sender) && has(hears[node], sender) && jams[at(node, sender)] == 0;
        }

        boolean isUpAt(int quality, boolean wasUp) {
            return quality >= rise || quality >= fall && wasUp;
        }

        void easeJams() {
            for (int cell = 0; cell < CELLS; cell++) {
                jams[cell] = Math.max(0, jams[cell] - 1);
            }
        }
    }

    /** What the nodes have of each other by HELLOS. */
    private static final class Links {
        final int[] qualities;
        /** By cells as the qualities: 0 of one who is no neighbour. */
        final int[] knowns;
        final int[] ups;
        final int[] neighbours;
        final int[] choosers;
        final int[] relays;

        Links() {
            qualities = new int[CELLS];
            knowns = new int[CELLS];
            ups = new int[MOST_NODES];
            neighbours = new int[MOST_NODES];
            choosers = new int[MOST_NODES];
            relays = new int[MOST_NODES];
        }

        static int qualityAfter(int quality, boolean heard) {
            return heard ? quality + (MOST_QUALITY - quality + 1) / 2 : quality / 2;
        }

        void clear() {
            Arrays.fill(qualities, 0);
            Arrays.fill(knowns, 0);
            Arrays.fill(ups, 0);
            Arrays.fill(neighbours, 0);
            Arrays.fill(choosers, 0);
            Arrays.fill(relays, 0);
        }

        void become(Links other) {
            System.arraycopy(other.qualities, 0, qualities, 0, CELLS);
            System.arraycopy(other.knowns, 0, knowns, 0, CELLS);
            System.arraycopy(other.ups, 0, ups, 0, MOST_NODES);
            System.arraycopy(other.neighbours, 0, neighbours, 0, MOST_NODES);
            System.arraycopy(other.choosers, 0, choosers, 0, MOST_NODES);
            System.arraycopy(other.relays, 0, relays, 0, MOST_NODES);
        }
    }

    /** What the nodes have of each other by NOTICES, and which NOTICES there were. */
    private static final class News {
        final int[] sets;
        final int[] numbers;
        /** In how many ticks a TOPOLOGY goes; 0: there is none. */
        final int[] lefts;
        final int[] ownNumbers;
        final int[] ownSets;
        /** The latest NOTICES, in the order of the ticks, round. */
        final int[] written;
        int notices;
        int sendings;
        int olds;

        News() {
            sets = new int[CELLS];
            numbers = new int[CELLS];
            lefts = new int[CELLS];
            ownNumbers = new int[MOST_NODES];
            ownSets = new int[MOST_NODES];
            written = new int[MOST_NOTICES * NOTICE_CELLS];
        }

        static boolean isOlder(int a, int b) {
            int ahead = (b - a + NUMBERS) % NUMBERS;
            return ahead >= 1 && ahead <= 7;
        }

        void clear() {
            Arrays.fill(sets, 0);
            Arrays.fill(numbers, 0);
            Arrays.fill(lefts, 0);
            Arrays.fill(ownNumbers, 0);
            Arrays.fill(ownSets, 0);
            Arrays.fill(written, 0);
            notices = 0;
            sendings = 0;
            olds = 0;
        }

        void become(News other) {
            System.arraycopy(other.sets, 0, sets, 0, CELLS);
            System.arraycopy(other.numbers, 0, numbers, 0, CELLS);
            System.arraycopy(other.lefts, 0, lefts, 0, CELLS);
            System.arraycopy(other.ownNumbers, 0, ownNumbers, 0, MOST_NODES);
            System.arraycopy(other.ownSets, 0, ownSets, 0, MOST_NODES);
            System.arraycopy(other.written, 0, written, 0, MOST_NOTICES * NOTICE_CELLS);
            notices = other.notices;
            sendings = other.sendings;
            olds = other.olds;
        }

        /** A NOTICE comes to a node's cell for the one whose NOTICE it is. */
        boolean takeIn(int cell, int number, int set, int hold) {
            if (lefts[cell] > 0 && isOlder(number, numbers[cell])) {
                olds++;
                return false;
            }
            sets[cell] = set;
            numbers[cell] = number;
            lefts[cell] = hold;
            return true;
        }

        void age(int node) {
            for (int other = 0; other < MOST_NODES; other++) {
                int cell = Mesh.at(node, other);
                lefts[cell] = Math.max(0, lefts[cell] - 1);
            }
        }

        /** A node's next NOTICE tells a set. */
        void renew(int node, int set) {
            if (ownSets[node] != set) {
                ownSets[node] = set;
                ownNumbers[node] = (ownNumbers[node] + 1) % NUMBERS;
            }
        }

        void write(int tick, int node, int got, int sent) {
            int row = notices % MOST_NOTICES * NOTICE_CELLS;
            written[row] = tick;
            written[row + 1] = node;
            written[row + 2] = got;
            written[row + 3] = sent;
            notices++;
            sendings += sent;
        }

        int written(int i, int what) {
            int row = Math.floorMod(notices - 1 - i, MOST_NOTICES) * NOTICE_CELLS;
            return written[row + what];
        }
    }

    /** Reads a text into a mesh, as far as there is no fault. */
    private static final class Reader {
        static final int END = 0;
        static final int WORD = 1;
        static final int NUMBER = 2;
        static final int SIGN = 3;
        static final int NO_TOKEN = 4;

        static final int NO_LINE = 0;
        static final int NODES = 1;
        static final int WILL = 2;
        static final int AIR = 3;
        static final int EAR = 4;
        static final int OFF = 5;
        static final int EVERY = 6;
        static final int HOLD = 7;
        static final int JAM = 8;

        static final int MOST_DIGITS = 3;

        int faultKind;
        int faultPlace;
        private final byte[] text;
        private int length;
        private int kind;
        private int start;
        private int end;
        private final int[] numbers;
        /** Which lines there were, as bits by their kinds. */
        private int lines;

        Reader() {
            text = new byte[MOST_BYTES];
            numbers = new int[3];
        }

        void read(byte[] tape, int n, Mesh mesh) {
            length = Math.min(n, Math.min(tape.length, MOST_BYTES));
            System.arraycopy(tape, 0, text, 0, length);
            mesh.clear();
            lines = 0;
            end = 0;
            faultKind = FINE;
            faultPlace = NONE;
            advance();
            for (int i = 0; i < MOST_BYTES && faultKind == FINE && kind != END; i++) {
                readLine(mesh);
                advance();
            }
        }

        private void readLine(Mesh mesh) {
            int line = kind == WORD ? lineKind() : NO_LINE;
            if (line == NO_LINE) {
                finds(kind == NO_TOKEN ? 1 : 2);
                return;
            }
            if ((line == EVERY || line == HOLD) && Mesh.has(lines, line)) {
                finds(5);
            }
            lines = Mesh.with(lines, line, true);
            for (int i = 0; i < numbersOf(line) && faultKind == FINE; i++) {
                readNumber(mesh, line, i);
            }
            if (faultKind == FINE) {
                expect(SIGN);
            }
            if (faultKind == FINE) {
                carryOut(mesh, line);
            }
        }

        private void readNumber(Mesh mesh, int line, int i) {
            expect(NUMBER);
            if (faultKind == FINE) {
                numbers[i] = numberHere();
                finds(numberFault(mesh, line, i));
            }
        }

        private void expect(int wanted) {
            advance();
            if (kind == NO_TOKEN) {
                finds(1);
            } else if (kind != wanted) {
                finds(2);
            }
        }

        /** The first fault stays. */
        private void finds(int fault) {
            if (faultKind == FINE && fault != FINE) {
                faultKind = fault;
                faultPlace = start;
            }
        }

        private void advance() {
            start = end;
            while (start < length && (text[start] == 10 || text[start] == 32)) {
                start++;
            }
            end = start;
            if (start >= length) {
                kind = END;
            } else if (isLetter(text[start])) {
                while (end < length && isLetter(text[end])) {
                    end++;
                }
                kind = WORD;
            } else if (isDigit(text[start])) {
                while (end < length && isDigit(text[end])) {
                    end++;
                }
                kind = end - start <= MOST_DIGITS ? NUMBER : NO_TOKEN;
            } else {
                kind = text[start] == ';' ? SIGN : NO_TOKEN;
                end++;
            }
        }

        private static boolean isLetter(int sign) {
            return sign >= 'a' && sign <= 'z';
        }

        private static boolean isDigit(int sign) {
            return sign >= '0' && sign <= '9';
        }

        private int numberHere() {
            int number = 0;
            for (int i = start; i < end && i < length; i++) {
                number = number * 10 + text[i] - '0';
            }
            return number;
        }

        private boolean spells(String word) {
            if (end - start != word.length()) {
                return false;
            }
            for (int i = 0; i < word.length(); i++) {
                if (text[start + i] != word.charAt(i)) {
                    return false;
                }
            }
            return true;
        }

        private int lineKind() {
            if (spells("nodes")) {
                return NODES;
            } else if (spells("will")) {
                return WILL;
            } else if (spells("air")) {
                return AIR;
            } else if (spells("ear")) {
                return EAR;
            } else if (spells("off")) {
                return OFF;
            } else if (spells("every")) {
                return EVERY;
            } else if (spells("hold")) {
                return HOLD;
            }
            return spells("jam") ? JAM : NO_LINE;
        }

        private static int numbersOf(int line) {
            switch (line) {
                case WILL:
                case AIR:
                case EAR:
                    return 2;
                case JAM:
                    return 3;
                default:
                    return 1;
            }
        }

        private int numberFault(Mesh mesh, int line, int i) {
            int number = numbers[i];
            switch (line) {
                case NODES:
                    return number >= 1 && number <= MOST_NODES && mesh.count + number > MOST_NODES
                        ? 6 : rangeFault(number, 1, MOST_NODES);
                case EVERY:
                    return rangeFault(number, 1, MOST_EVERY);
                case HOLD:
                    return rangeFault(number, 1, MOST_HOLD);
                case OFF:
                    return mesh.isNode(number) && !mesh.isOn(number) ? 5 : nodeFault(mesh, number);
                case WILL:
                    return i == 0 ? nodeFault(mesh, number) : rangeFault(number, 0, MOST_WILL);
                default:
                    return i < 2 ? placeFault(mesh, i) : rangeFault(number, 1, MOST_JAM);
            }
        }

        private static int rangeFault(int number, int from, int to) {
            return number < from || number > to ? 4 : FINE;
        }

        private static int nodeFault(Mesh mesh, int number) {
            return mesh.isNode(number) ? FINE : 3;
        }

        /** Of the first or the second of two nodes. */
        private int placeFault(Mesh mesh, int i) {
            int fault = nodeFault(mesh, numbers[i]);
            return fault == FINE && i == 1 && numbers[1] == numbers[0] ? 4 : fault;
        }

        /** The numbers have no fault, so that they fit. */
        private void carryOut(Mesh mesh, int line) {
            int first = numbers[0];
            int second = numbers[1];
            switch (line) {
                case NODES:
                    for (int i = 0; i < first; i++) {
                        mesh.addNode(3);
                    }
                    break;
                case WILL:
                    mesh.wills[first] = second;
                    break;
                case AIR:
                    mesh.hears[first] = Mesh.with(mesh.hears[first], second, true);
                    mesh.hears[second] = Mesh.with(mesh.hears[second], first, true);
                    break;
                case EAR:
                    mesh.hears[second] = Mesh.with(mesh.hears[second], first, true);
                    break;
                case OFF:
                    mesh.on = Mesh.with(mesh.on, first, false);
                    break;
                case EVERY:
                    mesh.every = first;
                    break;
                case HOLD:
                    mesh.hold = first;
                    break;
                default:
                    mesh.jams[Mesh.at(second, first)] = numbers[2];
                    break;
            }
        }
    }

    /** Which relays a node chooses. */
    private static final class Choice {
        /** Those who were chosen one by one in the latest choice, in that order. */
        final int[] picked;
        int pickedCount;

        Choice() {
            picked = new int[MOST_NODES];
        }

        static int willing(Mesh mesh, int node) {
            int found = 0;
            for (int other = 0; other < mesh.count; other++) {
                boolean is = Mesh.has(mesh.links.neighbours[node], other) && mesh.wills[other] > 0;
                found = Mesh.with(found, other, is);
            }
            return found;
        }

        static int behind(Mesh mesh, int node) {
            int known = knownOf(mesh, node, willing(mesh, node));
            return known & ~mesh.links.neighbours[node] & ~Mesh.bit(node);
        }

        /** Who is KNOWN to a node of some of a set. */
        static int knownOf(Mesh mesh, int node, int set) {
            int known = 0;
            for (int other = 0; other < mesh.count; other++) {
                if (Mesh.has(set, other)) {
                    known |= mesh.links.knowns[Mesh.at(node, other)];
                }
            }
            return known;
        }

        /** Those of a set by whom alone of it some of those behind are KNOWN. */
        static int onlyWays(Mesh mesh, int node, int set, int behind) {
            int found = 0;
            for (int other = 0; other < mesh.count; other++) {
                if (Mesh.has(set, other)) {
                    int byOthers = knownOf(mesh, node, Mesh.with(set, other, false));
                    int alone = mesh.links.knowns[Mesh.at(node, other)] & behind & ~byOthers;
                    found = Mesh.with(found, other, alone != 0);
                }
            }
            return found;
        }

        static int fewest(Mesh mesh, int node) {
            int willing = willing(mesh, node);
            int behind = behind(mesh, node);
            int best = willing;
            for (int set = 0; set < 1 << MOST_NODES; set++) {
                boolean serves = (set & ~willing) == 0 && (behind & ~knownOf(mesh, node, set)) == 0;
                if (serves && isFewer(set, best)) {
                    best = set;
                }
            }
            return best;
        }

        private static boolean isFewer(int set, int best) {
            int more = Integer.bitCount(set) - Integer.bitCount(best);
            return more < 0 || more == 0 && set < best;
        }

        int chosenByAll(Mesh mesh) {
            int relays = 0;
            for (int node = 0; node < mesh.count; node++) {
                if (mesh.isOn(node)) {
                    relays += Integer.bitCount(chosen(mesh, node));
                }
            }
            return relays;
        }

        int chosen(Mesh mesh, int node) {
            int willing = willing(mesh, node);
            int behind = behind(mesh, node);
            int relays = onlyWays(mesh, node, willing, behind);
            for (int other = 0; other < mesh.count; other++) {
                if (Mesh.has(willing, other) && mesh.wills[other] == MOST_WILL) {
                    relays = Mesh.with(relays, other, true);
                }
            }
            relays = pickMore(mesh, node, relays, behind);
            return dropSpare(mesh, node, relays, behind);
        }

        private int pickMore(Mesh mesh, int node, int relays, int behind) {
            int willing = willing(mesh, node);
            int now = relays;
            pickedCount = 0;
            for (int i = 0; i < MOST_NODES; i++) {
                int open = behind & ~knownOf(mesh, node, now);
                int next = best(mesh, node, willing & ~now, open);
                if (next == NONE) {
                    return now;
                }
                picked[i] = next;
                pickedCount = i + 1;
                now = Mesh.with(now, next, true);
            }
            return now;
        }

        /** The one of a set to be chosen next for those still open; NONE if nobody knows any. */
        private static int best(Mesh mesh, int node, int set, int open) {
            int best = NONE;
            int most = NONE;
            for (int other = 0; other < mesh.count; other++) {
                int known = mesh.links.knowns[Mesh.at(node, other)];
                if (Mesh.has(set, other) && (known & open) != 0) {
                    int rank = (mesh.wills[other] * 16 + Integer.bitCount(known & open)) * 16 + Integer.bitCount(known);
                    if (rank > most) {
                        best = other;
                        most = rank;
                    }
                }
            }
            return best;
        }

        private static int dropSpare(Mesh mesh, int node, int relays, int behind) {
            int now = relays;
            for (int will = 0; will < MOST_WILL; will++) {
                for (int other = mesh.count - 1; other >= 0; other--) {
                    int rest = Mesh.with(now, other, false);
                    boolean due = Mesh.has(now, other) && mesh.wills[other] == will;
                    if (due && (behind & ~knownOf(mesh, node, rest)) == 0) {
                        now = rest;
                    }
                }
            }
            return now;
        }
    }

    /** The routes of nodes, by what each has been told. */
    private static final class Routes {
        /** 0: there is none. */
        final int[] steps;
        final int[] nexts;

        Routes() {
            steps = new int[CELLS];
            nexts = new int[CELLS];
        }

        void findAll(Mesh mesh) {
            for (int node = 0; node < mesh.count; node++) {
                find(mesh, node);
            }
        }

        void find(Mesh mesh, int node) {
            int near = mesh.links.neighbours[node];
            for (int other = 0; other < mesh.count; other++) {
                int cell = Mesh.at(node, other);
                boolean isNear = other != node && Mesh.has(near, other);
                steps[cell] = isNear ? 1 : 0;
                nexts[cell] = isNear ? other : NONE;
            }
            for (int other = 0; other < mesh.count; other++) {
                if (other != node && steps[Mesh.at(node, other)] == 0) {
                    reachBehind(mesh, node, other);
                }
            }
            for (int length = 2; length < MOST_NODES; length++) {
                for (int other = 0; other < mesh.count; other++) {
                    if (other != node && steps[Mesh.at(node, other)] == 0) {
                        reachFurther(mesh, node, other, length);
                    }
                }
            }
        }

        private void reachBehind(Mesh mesh, int node, int other) {
            for (int by = mesh.count - 1; by >= 0; by--) {
                boolean isNear = Mesh.has(mesh.links.neighbours[node], by);
                if (isNear && Mesh.has(mesh.links.knowns[Mesh.at(node, by)], other)) {
                    steps[Mesh.at(node, other)] = 2;
                    nexts[Mesh.at(node, other)] = by;
                }
            }
        }

        private void reachFurther(Mesh mesh, int node, int other, int length) {
            int next = NONE;
            for (int by = 0; by < mesh.count; by++) {
                int cell = Mesh.at(node, by);
                boolean told = mesh.news.lefts[cell] > 0 && Mesh.has(mesh.news.sets[cell], other);
                if (told && steps[cell] == length - 1 && (next == NONE || nexts[cell] < next)) {
                    next = nexts[cell];
                }
            }
            if (next != NONE) {
                steps[Mesh.at(node, other)] = length;
                nexts[Mesh.at(node, other)] = next;
            }
        }
    }

    /** GOING from one node to another one. */
    private static final class Going {
        static final int THERE = 0;
        static final int LOST = 1;
        static final int ROUND = 2;

        final int[] nodes;
        int steps;
        int ending;
        /** Those where it was, but for its end. */
        int been;

        Going() {
            nodes = new int[MOST_NODES + 1];
        }

        int end() {
            return steps >= 0 && steps <= MOST_NODES ? nodes[steps] : NONE;
        }

        /** By routes that have been found of all nodes. */
        void follow(Mesh mesh, Routes routes, int from, int to) {
            int here = from;
            nodes[0] = from;
            steps = 0;
            ending = LOST;
            been = Mesh.bit(from);
            for (int step = 1; step <= MOST_NODES; step++) {
                int next = routes.nexts[Mesh.at(here, to)];
                if (!mesh.isOn(next) || !Mesh.has(mesh.hears[next], here)) {
                    return;
                }
                here = next;
                nodes[step] = here;
                steps = step;
                if (here == to || Mesh.has(been, here)) {
                    ending = here == to ? THERE : ROUND;
                    return;
                }
                been |= Mesh.bit(here);
            }
        }
    }

    /** How the nodes are joined in truth. */
    private static final class Truth {
        private int on;
        private final int[] pairs;
        /** The fewest; 0: there is no way. */
        final int[] steps;

        Truth() {
            pairs = new int[MOST_NODES];
            steps = new int[CELLS];
        }

        void see(Mesh mesh) {
            on = mesh.on;
            for (int node = 0; node < MOST_NODES; node++) {
                pairs[node] = 0;
                for (int other = 0; other < MOST_NODES; other++) {
                    boolean hear = Mesh.has(mesh.hears[node], other) && Mesh.has(mesh.hears[other], node);
                    pairs[node] = Mesh.with(pairs[node], other, hear && Mesh.has(on, node) && Mesh.has(on, other));
                }
            }
            for (int node = 0; node < MOST_NODES; node++) {
                measure(node);
            }
        }

        private void measure(int from) {
            int reached = Mesh.bit(from);
            for (int to = 0; to < MOST_NODES; to++) {
                steps[Mesh.at(from, to)] = 0;
            }
            for (int step = 1; step < MOST_NODES; step++) {
                int more = pairsOf(reached) & ~reached;
                for (int to = 0; to < MOST_NODES; to++) {
                    if (Mesh.has(more, to)) {
                        steps[Mesh.at(from, to)] = step;
                    }
                }
                reached |= more;
            }
        }

        private int pairsOf(int set) {
            int found = 0;
            for (int node = 0; node < MOST_NODES; node++) {
                if (Mesh.has(set, node)) {
                    found |= pairs[node];
                }
            }
            return found;
        }

        /** Those to whom a way by nodes of a set alone leads from a node, and itself. */
        private int joinedTo(int node, int set) {
            int reached = Mesh.bit(node);
            for (int step = 1; step < MOST_NODES; step++) {
                reached |= pairsOf(reached) & set;
            }
            return reached;
        }

        private boolean isJoined(int set) {
            for (int node = 0; node < MOST_NODES; node++) {
                if (Mesh.has(set, node)) {
                    return joinedTo(node, set) == set;
                }
            }
            return true;
        }

        boolean isBack(int set) {
            return (set & ~on) == 0 && (on & ~set & ~pairsOf(set)) == 0 && isJoined(set);
        }

        int smallestBack() {
            int best = 0;
            int fewest = MOST_NODES + 1;
            for (int set = 0; set < 1 << MOST_NODES; set++) {
                if (Integer.bitCount(set) < fewest && isBack(set)) {
                    best = set;
                    fewest = Integer.bitCount(set);
                }
            }
            return best;
        }

        boolean isCut(int node) {
            int others = Mesh.with(on, node, false);
            for (int other = 0; other < MOST_NODES; other++) {
                if (Mesh.has(others, other)) {
                    int with = Mesh.with(joinedTo(other, on), node, false);
                    if (with != joinedTo(other, others)) {
                        return true;
                    }
                }
            }
            return false;
        }
    }

    /** Whom a message comes to, and who sends it on. */
    private static final class Flood {
        static final int NOTICE = 0;
        static final int ON_PAPER = 1;
        static final int BLIND = 2;

        int got;
        int sent;
        private final int[] row;
        private int inRow;
        private int stood;

        Flood() {
            row = new int[MOST_NODES];
        }

        void send(Mesh mesh, int source, int kind, Losses losses) {
            got = 0;
            stood = 0;
            inRow = 0;
            stand(source);
            for (sent = 0; sent < inRow && sent < MOST_NODES; sent++) {
                int sender = row[sent];
                for (int node = 0; node < mesh.count; node++) {
                    boolean near = Mesh.has(mesh.links.neighbours[node], sender);
                    if (near && mesh.comesTo(node, sender) && !losses.loses()) {
                        hand(mesh, node, source, kind);
                        if (kind == BLIND || Mesh.has(mesh.links.choosers[node], sender)) {
                            stand(node);
                        }
                    }
                }
            }
        }

        private void hand(Mesh mesh, int node, int source, int kind) {
            if (node == source || Mesh.has(got, node)) {
                return;
            }
            got = Mesh.with(got, node, true);
            if (kind == NOTICE) {
                News news = mesh.news;
                news.takeIn(Mesh.at(node, source), news.ownNumbers[source], news.ownSets[source], mesh.hold);
            }
        }

        private void stand(int node) {
            if (!Mesh.has(stood, node) && inRow < MOST_NODES) {
                stood = Mesh.with(stood, node, true);
                row[inRow] = node;
                inRow++;
            }
        }
    }

    /** What is lost by draws. */
    private static final class Losses {
        static final int SIDES = 16;

        int lost;
        private int drawn;
        private int loss;

        Losses() {
            lost = 0;
        }

        void begin(int seed, int lossNow) {
            lost = 0;
            drawn = seed;
            loss = lossNow;
        }

        boolean loses() {
            drawn = (drawn * 4561 + 51349) % 243000;
            boolean is = drawn * SIDES / 243000 < loss;
            if (is) {
                lost++;
            }
            return is;
        }
    }

    /** How a tick goes by. */
    private static final class Ticker {
        private final Choice choice;
        private final Flood spread;
        /** What HELLOS tell: all as the tick begins. */
        private final int[] toldUps;
        private final int[] toldNeighbours;
        private final int[] toldRelays;

        Ticker(Choice choice, Flood spread) {
            this.choice = choice;
            this.spread = spread;
            toldUps = new int[MOST_NODES];
            toldNeighbours = new int[MOST_NODES];
            toldRelays = new int[MOST_NODES];
        }

        void step(Mesh mesh, Losses losses) {
            mesh.ticks++;
            sayHellos(mesh.links);
            hearHellos(mesh, losses);
            for (int node = 0; node < mesh.count; node++) {
                if (mesh.isOn(node)) {
                    mesh.links.relays[node] = choice.chosen(mesh, node);
                    mesh.news.age(node);
                }
            }
            if (mesh.every > 0 && mesh.ticks % mesh.every == 0) {
                sendNotices(mesh, losses);
            }
            mesh.easeJams();
        }

        private void sayHellos(Links links) {
            System.arraycopy(links.ups, 0, toldUps, 0, MOST_NODES);
            System.arraycopy(links.neighbours, 0, toldNeighbours, 0, MOST_NODES);
            System.arraycopy(links.relays, 0, toldRelays, 0, MOST_NODES);
        }

        private void hearHellos(Mesh mesh, Losses losses) {
            for (int node = 0; node < mesh.count; node++) {
                for (int other = 0; other < mesh.count; other++) {
                    if (other != node && mesh.isOn(node)) {
                        boolean heard = mesh.comesTo(node, other) && !losses.loses();
                        prove(mesh, node, other, heard);
                        learn(mesh.links, node, other, heard);
                    }
                }
            }
        }

        private void prove(Mesh mesh, int node, int other, boolean heard) {
            Links links = mesh.links;
            int cell = Mesh.at(node, other);
            int quality = Links.qualityAfter(links.qualities[cell], heard);
            boolean up = mesh.isUpAt(quality, Mesh.has(links.ups[node], other));
            links.qualities[cell] = quality;
            links.ups[node] = Mesh.with(links.ups[node], other, up);
        }

        private void learn(Links links, int node, int other, boolean heard) {
            int cell = Mesh.at(node, other);
            boolean said = heard ? Mesh.has(toldUps[other], node) : Mesh.has(links.neighbours[node], other);
            boolean near = said && Mesh.has(links.ups[node], other);
            boolean chooser = heard ? Mesh.has(toldRelays[other], node) : Mesh.has(links.choosers[node], other);
            int known = heard ? toldNeighbours[other] : links.knowns[cell];
            links.neighbours[node] = Mesh.with(links.neighbours[node], other, near);
            links.choosers[node] = Mesh.with(links.choosers[node], other, near && chooser);
            links.knowns[cell] = near ? known : 0;
        }

        private void sendNotices(Mesh mesh, Losses losses) {
            for (int node = 0; node < mesh.count; node++) {
                int choosers = mesh.links.choosers[node];
                if (mesh.isOn(node) && choosers != 0) {
                    mesh.news.renew(node, choosers);
                    spread.send(mesh, node, Flood.NOTICE, losses);
                    mesh.news.write(mesh.ticks, node, Integer.bitCount(spread.got), spread.sent);
                }
            }
        }
    }
}
