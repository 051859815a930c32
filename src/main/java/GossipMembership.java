import java.util.NoSuchElementException;

/**
 * A simulation of membership by gossip: eight nodes with views of one another, which probe each
 * other in rounds, suspect and declare dead the ones that do not answer, and pass on what they know.
 */
public final class GossipMembership {
    private static final int NODES = 8;
    private static final int PARTITIONS = 4;
    private static final int NOBODY = -1;

    private static final int UNKNOWN = 0;
    private static final int ALIVE = 1;
    private static final int SUSPECT = 2;
    private static final int DEAD = 3;

    private static final int GREATEST_PATIENCE = 20;
    private static final int GREATEST_FAN_OUT = 9;
    private static final int MOST_HELPERS = 3;
    private static final int MOST_ROUNDS = 50;
    private static final int MOST_ROUNDS_TO_AGREEMENT = 100;
    private static final int GREATEST_INCARNATION_TOLD = 1000;
    private static final int NEWS_PER_MESSAGE = 3;

    private static final int TEXT_LIMIT = 40;
    private static final int FIRST_CHARACTER = 33;
    private static final int LAST_CHARACTER = 126;
    private static final int NO_FAULT = -1;

    private static final int NO_FAILURE = 0;
    private static final int FAULT_OF_TEXT = 1;
    private static final int STATE_FAILURE = 2;
    private static final int ARGUMENT_FAILURE = 3;

    private final World world = new World();
    private final World savedWorld = new World();
    private boolean somethingSaved;
    private final CommandText text = new CommandText();
    private int failureKind = NO_FAILURE;
    private int failureNumber;

    public GossipMembership() {
    }

    public int setPatience(int rounds) throws IllegalArgumentException {
        if (rounds < 1 || rounds > GREATEST_PATIENCE) {
            throw new IllegalArgumentException("the patience is out of range");
        }
        int previous = world.knowledge.patience;
        world.knowledge.patience = rounds;
        return previous;
    }

    public int setFanOut(int times) throws IllegalArgumentException {
        if (times < 1 || times > GREATEST_FAN_OUT) {
            throw new IllegalArgumentException("the fan-out is out of range");
        }
        int previous = world.knowledge.fanOut;
        world.knowledge.fanOut = times;
        return previous;
    }

    public int setHelpers(int helpers) throws IllegalArgumentException {
        if (helpers < 0 || helpers > MOST_HELPERS) {
            throw new IllegalArgumentException("the number of helpers is out of range");
        }
        int previous = world.helpers;
        world.helpers = helpers;
        return previous;
    }

    public int setSeed(int seed) throws IllegalArgumentException {
        if (seed < 0) {
            throw new IllegalArgumentException("the seed is negative");
        }
        int previous = world.drawSeed;
        world.drawSeed = seed;
        return previous;
    }

    public int seed() {
        return world.drawSeed;
    }

    public int join(int node, int contact)
            throws IndexOutOfBoundsException, IllegalStateException, IllegalArgumentException {
        requireNode(node);
        requireNode(contact);
        if (world.network.up[node]) {
            throw new IllegalStateException("the node is up");
        }
        if (contact != node && !world.network.wouldConnect(node, contact)) {
            throw new IllegalArgumentException("the contact cannot be reached");
        }
        world.admit(node, contact);
        world.knowledge.endQuiet();
        return world.knowledge.ownIncarnation[node];
    }

    public int crash(int node) throws IndexOutOfBoundsException, IllegalStateException {
        requireNode(node);
        if (!world.network.up[node]) {
            throw new IllegalStateException("the node is down");
        }
        world.network.up[node] = false;
        world.knowledge.endQuiet();
        return world.network.countUp();
    }

    public int move(int node, int partition) throws IndexOutOfBoundsException, IllegalArgumentException {
        requireNode(node);
        if (partition < 0 || partition >= PARTITIONS) {
            throw new IllegalArgumentException("there is no such partition");
        }
        int previous = world.network.place[node];
        world.network.place[node] = partition;
        world.knowledge.endQuiet();
        return previous;
    }

    public boolean cut(int node, int other, boolean on)
            throws IndexOutOfBoundsException, IllegalArgumentException {
        requireTwoNodes(node, other);
        boolean previous = world.network.cutLinks[pair(node, other)];
        world.network.setCut(node, other, on);
        world.knowledge.endQuiet();
        return previous;
    }

    public int rounds(int count) throws IllegalArgumentException {
        if (count < 1 || count > MOST_ROUNDS) {
            throw new IllegalArgumentException("count is out of range");
        }
        world.play(count);
        return world.knowledge.presentRound;
    }

    public int roundsUntilAgreement(int most) throws IllegalArgumentException, NoSuchElementException {
        if (most < 1 || most > MOST_ROUNDS_TO_AGREEMENT) {
            throw new IllegalArgumentException("most is out of range");
        }
        int done = 0;
        boolean agreed = world.allAgree();
        while (!agreed && done < most) {
            world.play(1);
            done++;
            agreed = world.allAgree();
        }
        if (!agreed) {
            throw new NoSuchElementException("the nodes do not agree");
        }
        return done;
    }

    public int round() {
        return world.knowledge.presentRound;
    }

    public boolean isUp(int node) throws IndexOutOfBoundsException {
        requireNode(node);
        return world.network.up[node];
    }

    public int partition(int node) throws IndexOutOfBoundsException {
        requireNode(node);
        return world.network.place[node];
    }

    public int incarnation(int node) throws IndexOutOfBoundsException {
        requireNode(node);
        return world.knowledge.ownIncarnation[node];
    }

    public boolean reaches(int node, int other) throws IndexOutOfBoundsException {
        requireNode(node);
        requireNode(other);
        return world.network.connects(node, other);
    }

    public int view(int node, int other) throws IndexOutOfBoundsException, IllegalArgumentException {
        requireTwoNodes(node, other);
        return world.knowledge.state[pair(node, other)];
    }

    public int viewIncarnation(int node, int other)
            throws IndexOutOfBoundsException, IllegalArgumentException {
        requireTwoNodes(node, other);
        return world.knowledge.incarnations[pair(node, other)];
    }

    public int deadline(int node, int other)
            throws IndexOutOfBoundsException, IllegalArgumentException, NoSuchElementException {
        requireTwoNodes(node, other);
        if (world.knowledge.state[pair(node, other)] != SUSPECT) {
            throw new NoSuchElementException("the view is not suspect");
        }
        return world.knowledge.deadlines[pair(node, other)];
    }

    public int counter(int node, int about) throws IndexOutOfBoundsException {
        requireNode(node);
        requireNode(about);
        return world.knowledge.counters[pair(node, about)];
    }

    public boolean tell(int node, int about, int state, int incarnation)
            throws IndexOutOfBoundsException, IllegalStateException, IllegalArgumentException {
        requireNode(node);
        requireNode(about);
        if (!world.network.up[node]) {
            throw new IllegalStateException("the node is down");
        }
        if (state < ALIVE || state > DEAD) {
            throw new IllegalArgumentException("the state is out of range");
        }
        if (incarnation < 0 || incarnation > GREATEST_INCARNATION_TOLD) {
            throw new IllegalArgumentException("the incarnation is out of range");
        }
        boolean changed = world.knowledge.takeIn(node, about, state, incarnation);
        world.knowledge.endQuiet();
        return changed;
    }

    public int alive(int node) throws IndexOutOfBoundsException {
        requireNode(node);
        return world.knowledge.nodesInState(node, ALIVE);
    }

    public boolean agree() {
        return world.allAgree();
    }

    public int disagreements() {
        return world.countDisagreements();
    }

    public int declarations() {
        return world.declared;
    }

    public int falseDeclarations() {
        return world.declaredFalsely;
    }

    public int refutations() {
        return world.knowledge.refuted;
    }

    public int messages() {
        return world.messagesSent;
    }

    public int quietRounds() {
        return world.knowledge.presentRound - world.knowledge.lastUnquietRound;
    }

    public int appendCharacter(int character) throws IllegalArgumentException, IllegalStateException {
        if (character < FIRST_CHARACTER || character > LAST_CHARACTER) {
            throw new IllegalArgumentException("character is out of range");
        }
        if (text.length >= TEXT_LIMIT) {
            throw new IllegalStateException("the text is full");
        }
        text.signs[text.length] = (char) character;
        text.length++;
        return text.length;
    }

    public int runText() throws IllegalArgumentException, IllegalStateException {
        int fault = text.findFault();
        int kind = fault == NO_FAULT ? NO_FAILURE : FAULT_OF_TEXT;
        int done = 0;
        for (int at = 0; kind == NO_FAILURE && at < text.length; at += text.lengthOfCommand(at) + 1) {
            kind = carryOut(at);
            if (kind == NO_FAILURE) {
                done++;
            }
        }
        text.length = 0;
        failureKind = kind;
        failureNumber = kind == FAULT_OF_TEXT ? fault : done;
        if (kind == FAULT_OF_TEXT) {
            throw new IllegalArgumentException("the text has a fault");
        }
        if (kind != NO_FAILURE) {
            throw new IllegalStateException("a command failed");
        }
        return done;
    }

    public int failure(int part) throws IllegalArgumentException, NoSuchElementException {
        if (part < 0 || part > 1) {
            throw new IllegalArgumentException("the part is out of range");
        }
        if (failureKind == NO_FAILURE) {
            throw new NoSuchElementException("there was no failure");
        }
        return part == 0 ? failureKind : failureNumber;
    }

    public double averageCounter(int node) throws IndexOutOfBoundsException {
        requireNode(node);
        return (double) world.knowledge.sumOfCounters(node) / (double) NODES;
    }

    public float falseShare() throws ArithmeticException {
        if (world.declared == 0) {
            throw new ArithmeticException("there were no declarations");
        }
        return (float) world.declaredFalsely / (float) world.declared;
    }

    public void save() {
        savedWorld.copyFrom(world);
        somethingSaved = true;
    }

    public void restore() throws IllegalStateException {
        if (!somethingSaved) {
            throw new IllegalStateException("nothing was saved");
        }
        world.copyFrom(savedWorld);
    }

    private static void requireNode(int node) throws IndexOutOfBoundsException {
        if (node < 0 || node >= NODES) {
            throw new IndexOutOfBoundsException("there is no such node");
        }
    }

    private static void requireTwoNodes(int node, int other)
            throws IndexOutOfBoundsException, IllegalArgumentException {
        requireNode(node);
        requireNode(other);
        if (node == other) {
            throw new IllegalArgumentException("both nodes are the same");
        }
    }

    /** The place of what one node holds about another in a row that has an entry for each two nodes. */
    private static int pair(int node, int about) {
        return node * NODES + about;
    }

    /** Carries out the command at a position of a text without fault; returns the kind of its failure. */
    private int carryOut(int at) {
        int first = text.digitAt(at + 1);
        try {
            switch (text.signAt(at)) {
                case 'c':
                    crash(first);
                    break;
                case 'j':
                    join(first, text.digitAt(at + 2));
                    break;
                case 'p':
                    move(first, text.digitAt(at + 2));
                    break;
                case 'r':
                    // A digit from 1 to 9 is always a count that rounds takes.
                    world.play(first);
                    break;
                default:
                    break;
            }
        } catch (IllegalStateException refusal) {
            return STATE_FAILURE;
        } catch (IllegalArgumentException refusal) {
            return ARGUMENT_FAILURE;
        }
        return NO_FAILURE;
    }

    /** Which nodes are up, where they are, and which links between them are cut. */
    private static final class Network {
        final boolean[] up = new boolean[NODES];
        final boolean[] everUp = new boolean[NODES];
        final int[] place = new int[NODES];
        // Both directions of a link are kept, so that no caller has to put two nodes in order.
        final boolean[] cutLinks = new boolean[NODES * NODES];

        boolean connects(int node, int other) {
            return node != other && up[node] && wouldConnect(node, other);
        }

        /** Whether a node reaches another one as soon as it is up. */
        boolean wouldConnect(int node, int other) {
            return up[other] && place[node] == place[other] && !cutLinks[pair(node, other)];
        }

        void setCut(int node, int other, boolean on) {
            cutLinks[pair(node, other)] = on;
            cutLinks[pair(other, node)] = on;
        }

        int countUp() {
            int count = 0;
            for (int node = 0; node < NODES; node++) {
                if (up[node]) {
                    count++;
                }
            }
            return count;
        }

        void copyFrom(Network source) {
            for (int node = 0; node < NODES; node++) {
                up[node] = source.up[node];
                everUp[node] = source.everUp[node];
                place[node] = source.place[node];
            }
            for (int link = 0; link < NODES * NODES; link++) {
                cutLinks[link] = source.cutLinks[link];
            }
        }
    }

    /** What the nodes know of themselves and of one another, and how news changes it. */
    private static final class Knowledge {
        final int[] ownIncarnation = new int[NODES];
        final int[] state = new int[NODES * NODES];
        final int[] incarnations = new int[NODES * NODES];
        final int[] deadlines = new int[NODES * NODES];
        final int[] counters = new int[NODES * NODES];
        int patience = 3;
        int fanOut = 3;
        int presentRound;
        int lastUnquietRound;
        int refuted;

        void endQuiet() {
            lastUnquietRound = presentRound;
        }

        void forgetAll(int node) {
            for (int about = 0; about < NODES; about++) {
                state[pair(node, about)] = UNKNOWN;
                incarnations[pair(node, about)] = 0;
                counters[pair(node, about)] = 0;
            }
            counters[pair(node, node)] = fanOut;
        }

        /** Makes a node take in news; returns whether a view or the own incarnation changed. */
        boolean takeIn(int node, int about, int newState, int newIncarnation) {
            int at = pair(node, about);
            if (about == node) {
                if (newState == ALIVE || newIncarnation < ownIncarnation[node]) {
                    return false;
                }
                ownIncarnation[node] = newIncarnation + 1;
                refuted++;
            } else {
                if (!outweighs(at, newState, newIncarnation)) {
                    return false;
                }
                replaceView(at, newState, newIncarnation);
            }
            counters[at] = fanOut;
            endQuiet();
            return true;
        }

        private boolean outweighs(int at, int newState, int newIncarnation) {
            if (state[at] == UNKNOWN) {
                return true;
            }
            if (newIncarnation != incarnations[at]) {
                return newIncarnation > incarnations[at];
            }
            return newState == SUSPECT && state[at] == ALIVE || newState == DEAD && state[at] != DEAD;
        }

        private void replaceView(int at, int newState, int newIncarnation) {
            state[at] = newState;
            incarnations[at] = newIncarnation;
            if (newState == SUSPECT) {
                deadlines[at] = presentRound + patience;
            }
        }

        /** The state that a node tells of a node: alive of itself, the one of its view of others. */
        int toldState(int teller, int about) {
            return about == teller ? ALIVE : state[pair(teller, about)];
        }

        int toldIncarnation(int teller, int about) {
            return about == teller ? ownIncarnation[teller] : incarnations[pair(teller, about)];
        }

        /** The nodes that have a state in the views of a node, bit k for node k. */
        int nodesInState(int node, int wanted) {
            int set = 0;
            for (int about = 0; about < NODES; about++) {
                if (state[pair(node, about)] == wanted) {
                    set |= 1 << about;
                }
            }
            return set;
        }

        /** The node with the greatest counter above 0, the lowest of such, apart from those of a set. */
        int mostUrgent(int node, int apart) {
            int best = NOBODY;
            int greatest = 0;
            for (int about = 0; about < NODES; about++) {
                int count = counters[pair(node, about)];
                if ((apart >> about & 1) == 0 && count > greatest) {
                    best = about;
                    greatest = count;
                }
            }
            return best;
        }

        int sumOfCounters(int node) {
            int sum = 0;
            for (int about = 0; about < NODES; about++) {
                sum += counters[pair(node, about)];
            }
            return sum;
        }

        /** Whether a node holds another one alive with the incarnation that this one has. */
        boolean isUpToDate(int node, int other) {
            return state[pair(node, other)] == ALIVE
                    && incarnations[pair(node, other)] == ownIncarnation[other];
        }

        /** The number of third nodes of which the views of two nodes differ. */
        int countDifferences(int node, int other) {
            int count = 0;
            for (int third = 0; third < NODES; third++) {
                if (third != node && third != other && differ(pair(node, third), pair(other, third))) {
                    count++;
                }
            }
            return count;
        }

        private boolean differ(int at, int otherAt) {
            return state[at] != state[otherAt] || incarnations[at] != incarnations[otherAt];
        }

        void copyFrom(Knowledge source) {
            System.arraycopy(source.ownIncarnation, 0, ownIncarnation, 0, NODES);
            System.arraycopy(source.state, 0, state, 0, NODES * NODES);
            System.arraycopy(source.incarnations, 0, incarnations, 0, NODES * NODES);
            System.arraycopy(source.deadlines, 0, deadlines, 0, NODES * NODES);
            System.arraycopy(source.counters, 0, counters, 0, NODES * NODES);
            patience = source.patience;
            fanOut = source.fanOut;
            presentRound = source.presentRound;
            lastUnquietRound = source.lastUnquietRound;
            refuted = source.refuted;
        }
    }

    /** All that is saved: the nodes with what they know, and the rounds that they play. */
    private static final class World {
        final Network network = new Network();
        final Knowledge knowledge = new Knowledge();
        int helpers = 2;
        int drawSeed = 1;
        int declared;
        int declaredFalsely;
        int messagesSent;

        /** Makes a node up that is down, and introduces it to a contact if it reaches it. */
        void admit(int node, int contact) {
            network.up[node] = true;
            if (network.everUp[node]) {
                knowledge.ownIncarnation[node]++;
            }
            network.everUp[node] = true;
            knowledge.forgetAll(node);
            if (network.connects(node, contact)) {
                introduce(node, contact);
            }
        }

        private void introduce(int node, int contact) {
            for (int about = 0; about < NODES; about++) {
                int told = knowledge.toldState(contact, about);
                if (told != UNKNOWN) {
                    knowledge.takeIn(node, about, told, knowledge.toldIncarnation(contact, about));
                }
            }
            knowledge.takeIn(contact, node, ALIVE, knowledge.ownIncarnation[node]);
        }

        void play(int count) {
            for (int done = 0; done < count; done++) {
                knowledge.presentRound++;
                for (int node = 0; node < NODES; node++) {
                    if (network.up[node]) {
                        takeTurn(node);
                    }
                }
            }
        }

        private void takeTurn(int node) {
            declareOverdue(node);
            int partner = drawFrom(knowledge.nodesInState(node, ALIVE) | knowledge.nodesInState(node, SUSPECT));
            if (partner == NOBODY) {
                return;
            }
            if (network.connects(node, partner)) {
                send(node, partner);
                send(partner, node);
            } else if (!helpersReach(node, partner)) {
                // A partner that is suspect already is left as it is by this, with its deadline.
                knowledge.takeIn(node, partner, SUSPECT, knowledge.toldIncarnation(node, partner));
            }
        }

        private void declareOverdue(int node) {
            int suspects = knowledge.nodesInState(node, SUSPECT);
            for (int about = 0; about < NODES; about++) {
                if ((suspects >> about & 1) == 1
                        && knowledge.deadlines[pair(node, about)] <= knowledge.presentRound) {
                    knowledge.takeIn(node, about, DEAD, knowledge.toldIncarnation(node, about));
                    declared++;
                    if (network.connects(node, about)) {
                        declaredFalsely++;
                    }
                }
            }
        }

        /** Draws helpers for a probe that failed; returns whether one of them reaches the partner. */
        private boolean helpersReach(int node, int partner) {
            boolean reached = false;
            int left = knowledge.nodesInState(node, ALIVE) & ~(1 << partner);
            for (int drawn = 0; drawn < helpers; drawn++) {
                int helper = drawFrom(left);
                if (helper == NOBODY) {
                    return reached;
                }
                left &= ~(1 << helper);
                if (network.connects(node, helper) && network.connects(helper, partner)) {
                    reached = true;
                }
            }
            return reached;
        }

        /** Draws a node of a set, bit k for node k; nobody, and nothing drawn, if the set is empty. */
        private int drawFrom(int set) {
            int size = Integer.bitCount(set);
            if (size == 0) {
                return NOBODY;
            }
            drawSeed = (int) ((drawSeed * 1103515245L + 12345L) % 2147483648L);
            int before = drawSeed / 256 % size;
            for (int node = 0; node < NODES; node++) {
                if ((set >> node & 1) == 1) {
                    if (before == 0) {
                        return node;
                    }
                    before--;
                }
            }
            return NOBODY;
        }

        /**
         * Sends a message with news. The receiver takes in each piece as soon as it is chosen: that
         * changes nothing of the sender, so the message is the same as one made whole beforehand.
         */
        private void send(int sender, int receiver) {
            int sent = 0;
            int told = knowledge.toldState(sender, receiver);
            boolean ahead = told == SUSPECT || told == DEAD;
            if (ahead) {
                knowledge.takeIn(receiver, receiver, told, knowledge.toldIncarnation(sender, receiver));
            }
            for (int place = 0; place < NEWS_PER_MESSAGE; place++) {
                int about = knowledge.mostUrgent(sender, sent);
                if (about == NOBODY) {
                    break;
                }
                sent |= 1 << about;
                knowledge.counters[pair(sender, about)]--;
                if (!ahead || about != receiver) {
                    knowledge.takeIn(receiver, about, knowledge.toldState(sender, about),
                            knowledge.toldIncarnation(sender, about));
                }
            }
            messagesSent++;
        }

        boolean allAgree() {
            for (int node = 0; node < NODES; node++) {
                for (int other = node + 1; other < NODES; other++) {
                    if (network.connects(node, other) && !twoAgree(node, other)) {
                        return false;
                    }
                }
            }
            return true;
        }

        private boolean twoAgree(int node, int other) {
            return knowledge.isUpToDate(node, other) && knowledge.isUpToDate(other, node)
                    && knowledge.countDifferences(node, other) == 0;
        }

        int countDisagreements() {
            int count = 0;
            for (int node = 0; node < NODES; node++) {
                for (int other = node + 1; other < NODES; other++) {
                    if (network.connects(node, other)) {
                        count += knowledge.countDifferences(node, other);
                    }
                }
            }
            return count;
        }

        void copyFrom(World source) {
            network.copyFrom(source.network);
            knowledge.copyFrom(source.knowledge);
            helpers = source.helpers;
            drawSeed = source.drawSeed;
            declared = source.declared;
            declaredFalsely = source.declaredFalsely;
            messagesSent = source.messagesSent;
        }
    }

    /** The text of commands, and how it is read. */
    private static final class CommandText {
        // A sign that stands in no command, for what lies behind the end.
        private static final char NO_SIGN = 0;

        final char[] signs = new char[TEXT_LIMIT];
        int length;

        char signAt(int at) {
            return at >= 0 && at < length ? signs[at] : NO_SIGN;
        }

        int digitAt(int at) {
            return signAt(at) - '0';
        }

        int lengthOfCommand(int at) {
            return 1 + digitsOf(signAt(at));
        }

        /** The index of the first character that cannot continue a command text, or NO_FAULT. */
        int findFault() {
            int at = 0;
            while (at < length) {
                int fault = findFaultOfCommand(at);
                if (fault != NO_FAULT) {
                    return fault;
                }
                at += lengthOfCommand(at);
                if (at >= length) {
                    return NO_FAULT;
                }
                if (signAt(at) != ';') {
                    return at;
                }
                at++;
            }
            return length;
        }

        private int findFaultOfCommand(int start) {
            char letter = signAt(start);
            int digits = digitsOf(letter);
            if (digits == 0) {
                return start;
            }
            for (int place = 1; place <= digits; place++) {
                if (!isDigitFor(letter, place, signAt(start + place))) {
                    return start + place;
                }
            }
            return NO_FAULT;
        }

        /** How many digits follow the letter of a command; 0 if there is no such command. */
        private static int digitsOf(char letter) {
            switch (letter) {
                case 'c':
                case 'r':
                    return 1;
                case 'j':
                case 'p':
                    return 2;
                default:
                    return 0;
            }
        }

        private static boolean isDigitFor(char letter, int place, char sign) {
            if (letter == 'r') {
                return sign >= '1' && sign <= '9';
            }
            char last = letter == 'p' && place == 2 ? '3' : '7';
            return sign >= '0' && sign <= last;
        }
    }
}
