import java.util.ArrayList;
import java.util.List;
import java.util.NoSuchElementException;
import java.util.function.Consumer;
import java.util.function.Supplier;

/**
 * Each call that is refused, on an empty network, a full one and one with something of everything:
 * the exception that is due, by the order in which the document names them, and the state unchanged.
 */
final class RefusalsTest {
    private static final Class<IndexOutOfBoundsException> INDEX = IndexOutOfBoundsException.class;
    private static final Class<IllegalStateException> STATE = IllegalStateException.class;
    private static final Class<IllegalArgumentException> ARGUMENT = IllegalArgumentException.class;
    private static final Class<NoSuchElementException> NONE = NoSuchElementException.class;
    private static final int[] NO_NODES = {-1, 8, 64, Integer.MIN_VALUE, Integer.MAX_VALUE};

    private record Refusal(String call, Class<? extends Exception> due, Consumer<GossipMembership> made) {
    }

    private final List<Refusal> refusals = new ArrayList<>();

    private RefusalsTest() {
    }

    static void run() {
        RefusalsTest empty = new RefusalsTest();
        empty.alwaysRefused();
        empty.refusedWhenDown();
        empty.refusedAtFirst();
        empty.check("empty", Start::fresh);
        RefusalsTest full = new RefusalsTest();
        full.alwaysRefused();
        full.refusedWhenUp();
        full.refusedAtFirst();
        full.check("full", Start::full);
        RefusalsTest mixed = new RefusalsTest();
        mixed.alwaysRefused();
        mixed.refusedInMixed();
        mixed.check("mixed", Start::mixed);
        roundsBeforeAgreementIsRefused();
        faultBeforeCommandsAreRefused();
        textIsEmptiedAlsoIfRefused();
    }

    private void refuse(String call, Class<? extends Exception> due, Consumer<GossipMembership> made) {
        refusals.add(new Refusal(call, due, made));
    }

    /** What is the same for all that start alike is read once. */
    private void check(String what, Supplier<GossipMembership> start) {
        String all = Reading.all(start.get());
        String saved = Reading.saved(start.get());
        for (Refusal refusal : refusals) {
            String name = what + ": " + refusal.call;
            GossipMembership called = start.get();
            Check.raises(name, refusal.due, () -> refusal.made.accept(called));
            Check.raises(name + " again", refusal.due, () -> refusal.made.accept(called));
            Check.same(name + ", and then all", Reading.all(called), all);
            GossipMembership restored = start.get();
            Check.nameOf(() -> refusal.made.accept(restored));
            Check.same(name + ", and what is saved", Reading.saved(restored), saved);
        }
    }

    private void alwaysRefused() {
        settings();
        nodes();
        twoNodes();
        for (int bad : new int[] {Integer.MIN_VALUE, -1, 4, 5, Integer.MAX_VALUE}) {
            refuse("P9 to " + bad, ARGUMENT, g -> g.move(0, bad));
            refuse("P9 the last to " + bad, ARGUMENT, g -> g.move(7, bad));
        }
        for (int bad : new int[] {Integer.MIN_VALUE, -1, 0, 51, Integer.MAX_VALUE}) {
            refuse("P11 " + bad, ARGUMENT, g -> g.rounds(bad));
        }
        for (int bad : new int[] {Integer.MIN_VALUE, -1, 0, 101, Integer.MAX_VALUE}) {
            refuse("P12 " + bad, ARGUMENT, g -> g.roundsUntilAgreement(bad));
        }
        for (int bad : new int[] {Integer.MIN_VALUE, -33, 0, 32, 127, 255, 65536 + 'r', Integer.MAX_VALUE}) {
            refuse("P31 " + bad, ARGUMENT, g -> g.appendCharacter(bad));
        }
        for (int bad : new int[] {Integer.MIN_VALUE, -1, 2, Integer.MAX_VALUE}) {
            refuse("P33 part " + bad, ARGUMENT, g -> g.failure(bad));
        }
    }

    private void settings() {
        for (int bad : new int[] {Integer.MIN_VALUE, -1, 0, 21, Integer.MAX_VALUE}) {
            refuse("P2 " + bad, ARGUMENT, g -> g.setPatience(bad));
        }
        for (int bad : new int[] {Integer.MIN_VALUE, -1, 0, 10, Integer.MAX_VALUE}) {
            refuse("P3 " + bad, ARGUMENT, g -> g.setFanOut(bad));
        }
        for (int bad : new int[] {Integer.MIN_VALUE, -1, 4, Integer.MAX_VALUE}) {
            refuse("P4 " + bad, ARGUMENT, g -> g.setHelpers(bad));
        }
        for (int bad : new int[] {Integer.MIN_VALUE, -2, -1}) {
            refuse("P5 " + bad, ARGUMENT, g -> g.setSeed(bad));
        }
    }

    /** A node that does not exist comes before all else that is wrong with a call. */
    private void nodes() {
        for (int bad : NO_NODES) {
            refuse("P7 node " + bad, INDEX, g -> g.join(bad, 0));
            refuse("P7 contact " + bad, INDEX, g -> g.join(0, bad));
            refuse("P7 the last node, contact " + bad, INDEX, g -> g.join(7, bad));
            refuse("P7 both " + bad, INDEX, g -> g.join(bad, bad));
            refuse("P8 " + bad, INDEX, g -> g.crash(bad));
            refuse("P9 " + bad, INDEX, g -> g.move(bad, 0));
            refuse("P9 a bad partition too " + bad, INDEX, g -> g.move(bad, 4));
            refuse("P9 both " + bad, INDEX, g -> g.move(bad, bad));
            refuse("P14 " + bad, INDEX, g -> g.isUp(bad));
            refuse("P15 " + bad, INDEX, g -> g.partition(bad));
            refuse("P16 " + bad, INDEX, g -> g.incarnation(bad));
            refuse("P22 node " + bad, INDEX, g -> g.tell(bad, 0, 1, 0));
            refuse("P22 about " + bad, INDEX, g -> g.tell(0, bad, 1, 0));
            refuse("P22 both, and the rest " + bad, INDEX, g -> g.tell(bad, bad, 4, 1001));
            refuse("P22 about, and the rest " + bad, INDEX, g -> g.tell(7, bad, 0, -1));
            refuse("P23 " + bad, INDEX, g -> g.alive(bad));
            refuse("P34 " + bad, INDEX, g -> g.averageCounter(bad));
        }
    }

    private void twoNodes() {
        for (int bad : NO_NODES) {
            for (int good = 0; good < 8; good += 7) {
                int other = good;
                refuse("P10 " + bad + ", " + other, INDEX, g -> g.cut(bad, other, true));
                refuse("P10 " + other + ", " + bad, INDEX, g -> g.cut(other, bad, true));
                refuse("P17 " + bad + ", " + other, INDEX, g -> g.reaches(bad, other));
                refuse("P17 " + other + ", " + bad, INDEX, g -> g.reaches(other, bad));
                refuse("P18 " + bad + ", " + other, INDEX, g -> g.view(bad, other));
                refuse("P18 " + other + ", " + bad, INDEX, g -> g.view(other, bad));
                refuse("P19 " + bad + ", " + other, INDEX, g -> g.viewIncarnation(bad, other));
                refuse("P19 " + other + ", " + bad, INDEX, g -> g.viewIncarnation(other, bad));
                refuse("P20 " + bad + ", " + other, INDEX, g -> g.deadline(bad, other));
                refuse("P20 " + other + ", " + bad, INDEX, g -> g.deadline(other, bad));
                refuse("P21 " + bad + ", " + other, INDEX, g -> g.counter(bad, other));
                refuse("P21 " + other + ", " + bad, INDEX, g -> g.counter(other, bad));
            }
            refuse("P10 twice " + bad, INDEX, g -> g.cut(bad, bad, false));
            refuse("P17 twice " + bad, INDEX, g -> g.reaches(bad, bad));
            refuse("P18 twice " + bad, INDEX, g -> g.view(bad, bad));
            refuse("P19 twice " + bad, INDEX, g -> g.viewIncarnation(bad, bad));
            refuse("P20 twice " + bad, INDEX, g -> g.deadline(bad, bad));
            refuse("P21 twice " + bad, INDEX, g -> g.counter(bad, bad));
        }
        for (int node = 0; node < 8; node++) {
            int same = node;
            refuse("P10 the same " + same, ARGUMENT, g -> g.cut(same, same, true));
            refuse("P10 the same, mended " + same, ARGUMENT, g -> g.cut(same, same, false));
            refuse("P18 the same " + same, ARGUMENT, g -> g.view(same, same));
            refuse("P19 the same " + same, ARGUMENT, g -> g.viewIncarnation(same, same));
            refuse("P20 the same, before its view is asked for " + same, ARGUMENT, g -> g.deadline(same, same));
        }
    }

    private void refusedWhenDown() {
        for (int node = 0; node < 8; node++) {
            int down = node;
            refuse("P7 the contact is down " + down, ARGUMENT, g -> g.join(down, (down + 1) % 8));
            refuse("P8 down " + down, STATE, g -> g.crash(down));
            refuse("P22 down " + down, STATE, g -> g.tell(down, 0, 1, 0));
            refuse("P22 down, about itself " + down, STATE, g -> g.tell(down, down, 3, 1000));
            refuse("P22 down, before the state " + down, STATE, g -> g.tell(down, 0, 0, 0));
            refuse("P22 down, before the incarnation " + down, STATE, g -> g.tell(down, 0, 1, 1001));
        }
    }

    private void refusedWhenUp() {
        for (int node = 0; node < 8; node++) {
            int up = node;
            refuse("P7 up " + up, STATE, g -> g.join(up, up));
            refuse("P7 up, with a contact " + up, STATE, g -> g.join(up, (up + 1) % 8));
        }
        newsOutOfRange(0);
        newsOutOfRange(7);
    }

    private void newsOutOfRange(int node) {
        for (int bad : new int[] {Integer.MIN_VALUE, -1, 0, 4, Integer.MAX_VALUE}) {
            refuse("P22 state " + bad, ARGUMENT, g -> g.tell(node, 3, bad, 9));
            refuse("P22 state, about itself " + bad, ARGUMENT, g -> g.tell(node, node, bad, 9));
        }
        for (int bad : new int[] {Integer.MIN_VALUE, -1, 1001, Integer.MAX_VALUE}) {
            refuse("P22 incarnation " + bad, ARGUMENT, g -> g.tell(node, 3, 3, bad));
            refuse("P22 incarnation, about itself " + bad, ARGUMENT, g -> g.tell(node, node, 2, bad));
            refuse("P22 both " + bad, ARGUMENT, g -> g.tell(node, 3, 4, bad));
        }
    }

    /** Nothing was declared, met or saved yet, and no view is suspect. */
    private void refusedAtFirst() {
        refuse("P35 no declarations", ArithmeticException.class, GossipMembership::falseShare);
        refuse("P33 no call yet", NONE, g -> g.failure(0));
        refuse("P33 no call yet, part 1", NONE, g -> g.failure(1));
        refuse("P37 nothing was saved", STATE, GossipMembership::restore);
        refuse("P20 not suspect", NONE, g -> g.deadline(0, 7));
        refuse("P20 not suspect, the last", NONE, g -> g.deadline(7, 6));
    }

    /** Nodes 0, 1 and 2 are up, node 3 in another partition too, node 4 is down again; 0 and 1 are cut. */
    private void refusedInMixed() {
        newsOutOfRange(0);
        refuse("P7 up, before the contact is asked for", STATE, g -> g.join(0, 4));
        refuse("P7 up, the contact elsewhere", STATE, g -> g.join(0, 3));
        refuse("P7 up, the link cut", STATE, g -> g.join(0, 1));
        refuse("P7 the contact down", ARGUMENT, g -> g.join(4, 5));
        refuse("P7 the contact elsewhere", ARGUMENT, g -> g.join(4, 3));
        refuse("P8 down again", STATE, g -> g.crash(4));
        refuse("P8 never up", STATE, g -> g.crash(5));
        refuse("P20 unknown", NONE, g -> g.deadline(0, 6));
        refuse("P20 alive", NONE, g -> g.deadline(0, 2));
        refuse("P20 dead", NONE, g -> g.deadline(1, 6));
        refuse("P20 of one that is down", NONE, g -> g.deadline(7, 0));
        refuse("P22 down", STATE, g -> g.tell(4, 0, 2, 9));
    }

    private static GossipMembership strangers() {
        GossipMembership g = Start.fresh();
        g.join(0, 0);
        g.join(1, 1);
        return g;
    }

    /** P12: the range is checked first, so that no round is carried out for a number that is out of it. */
    private static void roundsBeforeAgreementIsRefused() {
        for (int bad : new int[] {0, 101}) {
            GossipMembership g = strangers();
            Check.raises("P12 do not agree, and " + bad, ARGUMENT, () -> g.roundsUntilAgreement(bad));
            Check.same("P12 no round with " + bad, g.round(), 0);
        }
        GossipMembership g = strangers();
        Check.raises("P12 do not agree", NONE, () -> g.roundsUntilAgreement(1));
        Check.same("P12 the round stays carried out", g.round(), 1);
    }

    /** P32: a fault comes before what a command would throw, and none of them is carried out. */
    private static void faultBeforeCommandsAreRefused() {
        GossipMembership g = strangers();
        Start.type(g, "r1;c7;c8");
        Check.raises("P32 a fault behind a command that throws", ARGUMENT, g::runText);
        Check.same("P33 the kind of a fault", g.failure(0), 1);
        Check.same("P33 its position", g.failure(1), 7);
        Check.same("P32 no round", g.round(), 0);
        Start.type(g, "r1;c7;c6");
        Check.raises("P32 two commands that throw", STATE, g::runText);
        Check.same("P33 the kind of the first", g.failure(0), 2);
        Check.same("P33 the number of the first", g.failure(1), 1);
        Check.same("P32 the round before stays", g.round(), 1);
    }

    /** P32: what is refused by runText changes the text and what failure tells, and nothing else. */
    private static void textIsEmptiedAlsoIfRefused() {
        for (String text : new String[] {"", "x", "r1;", "c7", "j77;j77"}) {
            GossipMembership g = Start.full();
            Start.type(g, text);
            Check.nameOf(g::runText);
            Check.same("P32 emptied, was " + text, g.appendCharacter('r'), 1);
            Check.nameOf(g::runText);
        }
        GossipMembership refused = Start.full();
        Start.type(refused, "j76;c0");
        Check.raises("P32 up already", STATE, refused::runText);
        GossipMembership other = Start.full();
        Start.type(other, "j00");
        Check.raises("P32 another one up", STATE, other::runText);
        Check.same("P32 nothing else changes", Reading.all(refused), Reading.all(other));
    }
}
