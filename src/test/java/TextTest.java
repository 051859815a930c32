import java.util.NoSuchElementException;

/** Promises 31 to 33: the text, how it is carried out, and what that met. */
final class TextTest {
    private static final Class<IllegalStateException> STATE = IllegalStateException.class;
    private static final Class<IllegalArgumentException> ARGUMENT = IllegalArgumentException.class;
    private static final Class<NoSuchElementException> NONE = NoSuchElementException.class;

    private TextTest() {
    }

    static void run() {
        append();
        carriesOut();
        faults();
        everyCharacter();
        commandsThatFail();
        failure();
    }

    private static GossipMembership full() {
        GossipMembership g = Start.two();
        for (int k = 0; k < 40; k++) {
            g.appendCharacter('!');
        }
        return g;
    }

    private static void append() {
        GossipMembership g = Start.fresh();
        Check.same("P31 the least", g.appendCharacter(33), 1);
        Check.same("P31 the greatest", g.appendCharacter(126), 2);
        for (int length = 3; length <= 40; length++) {
            Check.same("P31 length", g.appendCharacter('c'), length);
        }
        Check.raises("P31 full", STATE, () -> g.appendCharacter('c'));
        Check.raises("P31 full again", STATE, () -> g.appendCharacter('c'));
        Check.refuses("P31 state of a full text", TextTest::full, STATE, x -> x.appendCharacter('c'));
        for (int bad : new int[] {32, 127, 0, -1, 65536 + 'c', Integer.MIN_VALUE, Integer.MAX_VALUE}) {
            Check.refuses("P31 " + bad, Start::mixed, ARGUMENT, x -> x.appendCharacter(bad));
            Check.refuses("P31 full and " + bad, TextTest::full, ARGUMENT, x -> x.appendCharacter(bad));
        }
        Check.raises("P31 a full text is read", ARGUMENT, g::runText);
        Check.same("P31 and emptied", g.appendCharacter('c'), 1);
    }

    private static int run(GossipMembership g, String text) {
        Start.type(g, text);
        return g.runText();
    }

    private static void carriesOut() {
        GossipMembership g = Start.fresh();
        Check.same("P32 join", run(g, "j33"), 1);
        Check.same("P32 up", g.isUp(3), true);
        Check.same("P32 join with a contact", run(g, "j73"), 1);
        Check.same("P32 node first", g.alive(7), 8);
        Check.same("P32 move", run(g, "p72"), 1);
        Check.same("P32 moved", g.partition(7), 2);
        Check.same("P32 one that is down", run(g, "p03"), 1);
        Check.same("P32 moved too", g.partition(0), 3);
        Check.same("P32 rounds", run(g, "r9"), 1);
        Check.same("P32 nine", g.round(), 9);
        Check.same("P32 crash", run(g, "c3"), 1);
        Check.same("P32 down", g.isUp(3), false);
        Check.same("P32 thirteen", run(g, "r1;r1;r1;r1;r1;r1;r1;r1;r1;r1;r1;r1;r2"), 13);
        Check.same("P32 in their order", g.round(), 23);
        Check.same("P32 a text of 39", run(g, "p01;p02;p03;p00;p11;p12;p13;p10;p20;p21"), 10);
        Check.same("P32 the last", g.partition(2), 1);
        GossipMembership calls = Start.fresh();
        calls.join(0, 0);
        calls.join(1, 0);
        calls.rounds(2);
        calls.move(1, 1);
        calls.crash(0);
        calls.rounds(7);
        calls.join(0, 0);
        GossipMembership text = Start.fresh();
        Check.same("P32 seven", run(text, "j00;j10;r2;p11;c0;r7;j00"), 7);
        Check.same("P32 like the methods", Reading.all(text), Reading.all(calls));
    }

    private static void faults() {
        String[] texts = {
            "", ";", "c", "c8", "c0;", "c0c", "c0;;", "c00", "c 0", "C0", "x", "j", "j0", "j8", "j08", "j00;", "j000",
            "p", "p0", "p8", "p04", "p00;p", "r", "r0", "r10", "r;", "rr", "c/", "c:", "r:", "j:0", "j0/", "p0/",
            "c0;j11;p", "c0;j11;p2", "c0;j11;p2x", "c0;j11;p23r", "c0,c1", "c0;x", "1", "~", "c0;r1;r1;r1;r0",
            "r1;r1;r1;r1;r1;r1;r1;r1;r1;r1;r1;r1;r1;r", "r1;r1;r1;r1;r1;r1;r1;r1;r1;r1;r1;r1;r11",
            "p00;p00;p00;p00;p00;p00;p00;p00;p00;p00;",
        };
        int[] due = {
            0, 0, 1, 1, 3, 2, 3, 2, 1, 0, 0, 1, 2, 1, 2, 4, 3,
            1, 2, 1, 2, 5, 1, 1, 2, 1, 1, 1, 1, 1, 1, 2, 2,
            8, 9, 9, 10, 2, 3, 0, 0, 13,
            40, 38,
            40,
        };
        for (int k = 0; k < texts.length; k++) {
            String text = texts[k].replace(" ", "!");
            GossipMembership g = Start.all(1);
            Check.raises("P32 fault of " + text, ARGUMENT, () -> run(g, text));
            Check.same("P33 kind of " + text, g.failure(0), 1);
            Check.same("P33 position of " + text, g.failure(1), due[k]);
            Check.same("P32 nothing is carried out", g.isUp(0), true);
            Check.same("P32 no round", g.round(), 0);
            Check.same("P32 the text is emptied", g.appendCharacter('r'), 1);
        }
        GossipMembership shorter = Start.fresh();
        Check.raises("P32 a long one", ARGUMENT, () -> run(shorter, "r1;r2;r3;x"));
        Check.raises("P32 a short one after it", ARGUMENT, () -> run(shorter, "r1;"));
        Check.same("P33 ends where it ends", shorter.failure(1), 3);
        Check.same("P32 and a good one", run(shorter, "r1"), 1);
        Check.same("P32 and no more", shorter.round(), 1);
    }

    /** Each character at each place of each command is refused or not. */
    private static void everyCharacter() {
        String[] begins = {"", "c", "j", "j0", "p", "p0", "r", "c0"};
        String[] good = {"cjpr", "01234567", "01234567", "01234567", "01234567", "0123", "123456789", ";"};
        for (int k = 0; k < begins.length; k++) {
            for (char sign = 33; sign <= 126; sign++) {
                GossipMembership g = Start.fresh();
                Start.type(g, begins[k] + sign + "~");
                Check.nameOf(g::runText);
                int place = begins[k].length();
                Check.same("P32 " + begins[k] + sign, g.failure(1), good[k].indexOf(sign) >= 0 ? place + 1 : place);
            }
        }
    }

    private static void commandsThatFail() {
        GossipMembership g = Start.fresh();
        Check.raises("P32 up already", STATE, () -> run(g, "j00;p01;j00;j11"));
        Check.same("P33 kind", g.failure(0), 2);
        Check.same("P33 number", g.failure(1), 2);
        Check.same("P32 those before stay", g.partition(0), 1);
        Check.same("P32 those behind are not reached", g.isUp(1), false);
        Check.same("P32 emptied", g.appendCharacter('r'), 1);
        Check.raises("P32 too short", ARGUMENT, g::runText);
        Check.raises("P32 down already", STATE, () -> run(g, "c1;r1"));
        Check.same("P33 the first", g.failure(1), 0);
        Check.same("P33 its kind", g.failure(0), 2);
        Check.same("P32 no round", g.round(), 0);
        Check.raises("P32 a contact that is down", STATE, () -> run(g, "r2;j12"));
        Check.same("P33 an argument", g.failure(0), 3);
        Check.same("P33 of the second", g.failure(1), 1);
        Check.same("P32 two rounds", g.round(), 2);
        Check.raises("P32 a contact elsewhere", STATE, () -> run(g, "j10"));
        Check.same("P33 an argument too", g.failure(0), 3);
        Check.same("P32 not joined", g.isUp(1), false);
        Check.raises("P32 up, and a contact that is down", STATE, () -> run(g, "j05"));
        Check.same("P33 the state first", g.failure(0), 2);
        GossipMembership last = Start.fresh();
        Check.raises("P32 the last of thirteen", STATE, () -> run(last, "r1;r1;r1;r1;r1;r1;r1;r1;r1;r1;r1;r1;c0"));
        Check.same("P33 twelve", last.failure(1), 12);
        Check.same("P32 twelve rounds", last.round(), 12);
    }

    private static void failure() {
        Check.refuses("P33 no call yet", Start::two, NONE, g -> g.failure(0));
        Check.refuses("P33 no call yet, part 1", Start::two, NONE, g -> g.failure(1));
        for (int bad : new int[] {-1, 2, 3, Integer.MIN_VALUE, Integer.MAX_VALUE}) {
            Check.refuses("P33 part " + bad, Start::two, ARGUMENT, g -> g.failure(bad));
            Check.refuses("P33 part after a failure " + bad, Start::mixed, ARGUMENT, g -> g.failure(bad));
        }
        GossipMembership g = Start.fresh();
        Check.raises("P33 a fault", ARGUMENT, () -> run(g, "r1;x"));
        Check.same("P33 its kind", g.failure(0), 1);
        Check.same("P33 its place", g.failure(1), 3);
        g.appendCharacter('r');
        g.rounds(1);
        Check.nameOf(() -> g.crash(0));
        Check.same("P33 stays with other calls", g.failure(1), 3);
        g.appendCharacter('1');
        Check.same("P33 a good text", g.runText(), 1);
        Check.raises("P33 nothing then", NONE, () -> g.failure(0));
        Check.raises("P33 nothing then, part 1", NONE, () -> g.failure(1));
    }
}
