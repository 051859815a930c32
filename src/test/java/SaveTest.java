/** Promises 36 and 37: saving and restoring. */
final class SaveTest {
    private SaveTest() {
    }

    static void run() {
        nothingSaved();
        everything();
        stays();
        replaced();
        apart();
    }

    private static void nothingSaved() {
        Check.refuses("P37 nothing was saved", Start::two, IllegalStateException.class, GossipMembership::restore);
    }

    /** Changes all that there is; an object that restores then goes on like one that was left alone. */
    private static void change(GossipMembership g) {
        g.setPatience(1);
        g.setFanOut(9);
        g.setHelpers(3);
        g.setSeed(99);
        g.tell(0, 0, Start.DEAD, 20);
        g.tell(1, 2, Start.SUSPECT, 7);
        g.tell(1, 3, Start.SUSPECT, 7);
        g.tell(1, 7, Start.DEAD, 7);
        g.crash(2);
        Check.nameOf(() -> g.join(7, 7));
        g.move(0, 3);
        g.cut(2, 3, true);
        g.cut(0, 1, false);
        g.rounds(9);
        g.setPatience(17);
    }

    private static GossipMembership begun() {
        GossipMembership g = Start.all(5);
        g.setPatience(2);
        g.setFanOut(4);
        g.setHelpers(1);
        g.crash(4);
        g.cut(0, 1, true);
        g.tell(3, 3, Start.DEAD, 3);
        g.tell(1, 6, Start.SUSPECT, 3);
        g.rounds(7);
        g.save();
        return g;
    }

    private static void everything() {
        GossipMembership g = begun();
        int declarations = g.declarations();
        int falseOnes = g.falseDeclarations();
        change(g);
        Check.same("P37 there are declarations since", g.declarations() > declarations, true);
        Check.same("P37 there are false ones since", g.falseDeclarations() > falseOnes, true);
        g.restore();
        Check.same("P37 all is as it was saved", Reading.all(g), Reading.all(begun()));
        GossipMembership further = begun();
        change(further);
        further.restore();
        further.rounds(20);
        GossipMembership straight = begun();
        straight.rounds(20);
        Check.same("P37 and goes on so", Reading.all(further), Reading.all(straight));
        Check.same("P36 saving changes nothing else", begun().round(), 7);
    }

    private static void stays() {
        GossipMembership g = begun();
        for (int k = 0; k < 3; k++) {
            change(g);
            g.restore();
        }
        Check.same("P37 it stays saved", Reading.all(g), Reading.all(begun()));
        GossipMembership at = begun();
        at.restore();
        at.rounds(1);
        at.restore();
        Check.same("P37 what is restored is apart from what is saved", at.round(), 7);
    }

    private static void replaced() {
        GossipMembership waiting = Start.two();
        waiting.tell(0, 7, Start.SUSPECT, 0);
        waiting.save();
        waiting.setPatience(15);
        waiting.tell(0, 7, Start.SUSPECT, 1);
        waiting.restore();
        Check.same("P36 deadlines too", waiting.deadline(0, 7), 3);
        GossipMembership g = Start.two();
        g.save();
        g.rounds(3);
        g.save();
        g.rounds(5);
        g.restore();
        Check.same("P36 in place of what was saved before", g.round(), 3);
        GossipMembership never = Start.fresh();
        never.save();
        never.join(5, 5);
        never.crash(5);
        never.restore();
        Check.same("P36 also whether a node was up before", never.join(5, 5), 0);
    }

    private static void apart() {
        GossipMembership g = Start.two();
        Start.type(g, "x");
        Check.nameOf(g::runText);
        Start.type(g, "r1");
        g.save();
        Start.type(g, ";r2");
        g.restore();
        Check.same("P36 the text is not saved", g.appendCharacter(';'), 6);
        Check.same("P36 nor what was met", g.failure(1), 0);
        Start.type(g, "r3");
        Check.same("P37 the text goes on", g.runText(), 3);
        g.restore();
        Check.same("P37 nothing was met since", Reading.answer(() -> g.failure(0)), "NoSuchElementException");
        Check.same("P37 rounds of the text are undone", g.round(), 0);
        Start.type(g, "r1;c9");
        Check.nameOf(g::runText);
        g.restore();
        Check.same("P37 what was met stays", g.failure(1), 4);
    }
}
