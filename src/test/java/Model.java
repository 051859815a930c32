import java.util.ArrayList;
import java.util.List;
import java.util.NoSuchElementException;

/**
 * The document once more, written for the tests, sentence by sentence and with the Java library,
 * apart from how the program does it: messages are lists that are made whole before they are taken in.
 */
final class Model {
    private static final String[] STATES = {"unknown", "alive", "suspect", "dead"};

    private static final class View {
        String state = "unknown";
        int incarnation = 0;
        int deadline = 0;

        boolean is(String wanted) {
            return state.equals(wanted);
        }

        View copy() {
            View copy = new View();
            copy.state = state;
            copy.incarnation = incarnation;
            copy.deadline = deadline;
            return copy;
        }
    }

    private static final class Node {
        boolean up = false;
        boolean upBefore = false;
        int partition = 0;
        int incarnation = 0;
        View[] views = new View[8];
        int[] counters = new int[8];
        boolean[] cut = new boolean[8];

        Node() {
            for (int k = 0; k < 8; k++) {
                views[k] = new View();
            }
        }

        Node copy() {
            Node copy = new Node();
            copy.up = up;
            copy.upBefore = upBefore;
            copy.partition = partition;
            copy.incarnation = incarnation;
            for (int k = 0; k < 8; k++) {
                copy.views[k] = views[k].copy();
            }
            copy.counters = counters.clone();
            copy.cut = cut.clone();
            return copy;
        }
    }

    private record News(int about, String state, int incarnation) {
    }

    private static final class Everything {
        Node[] nodes = new Node[8];
        int patience = 3;
        int fanOut = 3;
        int helpers = 2;
        long seed = 1;
        int round = 0;
        int declarations = 0;
        int falseDeclarations = 0;
        int refutations = 0;
        int messages = 0;
        int quiet = 0;

        Everything copy() {
            Everything copy = new Everything();
            for (int k = 0; k < 8; k++) {
                copy.nodes[k] = nodes[k].copy();
            }
            copy.patience = patience;
            copy.fanOut = fanOut;
            copy.helpers = helpers;
            copy.seed = seed;
            copy.round = round;
            copy.declarations = declarations;
            copy.falseDeclarations = falseDeclarations;
            copy.refutations = refutations;
            copy.messages = messages;
            copy.quiet = quiet;
            return copy;
        }
    }

    private Everything all = new Everything();
    private Everything saved = null;
    private boolean somethingChanged = false;
    private String text = "";
    private int[] met = null;

    Model() {
        for (int k = 0; k < 8; k++) {
            all.nodes[k] = new Node();
        }
    }

    // ---- what the calls check

    private static void number(int node) {
        if (node < 0 || node > 7) {
            throw new IndexOutOfBoundsException();
        }
    }

    private static void argument(boolean good) {
        if (!good) {
            throw new IllegalArgumentException();
        }
    }

    private static void state(boolean good) {
        if (!good) {
            throw new IllegalStateException();
        }
    }

    private static void twoNumbers(int node, int other) {
        number(node);
        number(other);
        argument(node != other);
    }

    // ---- settings

    int setPatience(int rounds) {
        argument(rounds >= 1 && rounds <= 20);
        int previous = all.patience;
        all.patience = rounds;
        return previous;
    }

    int setFanOut(int times) {
        argument(times >= 1 && times <= 9);
        int previous = all.fanOut;
        all.fanOut = times;
        return previous;
    }

    int setHelpers(int helpers) {
        argument(helpers >= 0 && helpers <= 3);
        int previous = all.helpers;
        all.helpers = helpers;
        return previous;
    }

    int setSeed(int seed) {
        argument(seed >= 0);
        int previous = (int) all.seed;
        all.seed = seed;
        return previous;
    }

    int seed() {
        return (int) all.seed;
    }

    // ---- nodes

    int join(int node, int contact) {
        number(node);
        number(contact);
        Node self = all.nodes[node];
        Node friend = all.nodes[contact];
        state(!self.up);
        if (contact != node) {
            argument(friend.up && friend.partition == self.partition && !friend.cut[node]);
        }
        self.up = true;
        if (self.upBefore) {
            self.incarnation++;
        }
        self.upBefore = true;
        for (int k = 0; k < 8; k++) {
            self.views[k] = new View();
            self.counters[k] = 0;
        }
        self.counters[node] = all.fanOut;
        if (contact != node) {
            for (int k = 0; k < 8; k++) {
                View view = friend.views[k];
                if (k == contact) {
                    takeIn(node, new News(contact, "alive", friend.incarnation));
                } else if (!view.is("unknown")) {
                    takeIn(node, new News(k, view.state, view.incarnation));
                }
            }
            takeIn(contact, new News(node, "alive", self.incarnation));
        }
        all.quiet = 0;
        return self.incarnation;
    }

    int crash(int node) {
        number(node);
        state(all.nodes[node].up);
        all.nodes[node].up = false;
        all.quiet = 0;
        int count = 0;
        for (Node each : all.nodes) {
            count += each.up ? 1 : 0;
        }
        return count;
    }

    int move(int node, int partition) {
        number(node);
        argument(partition >= 0 && partition <= 3);
        int previous = all.nodes[node].partition;
        all.nodes[node].partition = partition;
        all.quiet = 0;
        return previous;
    }

    boolean cut(int node, int other, boolean on) {
        twoNumbers(node, other);
        boolean previous = all.nodes[node].cut[other];
        all.nodes[node].cut[other] = on;
        all.nodes[other].cut[node] = on;
        all.quiet = 0;
        return previous;
    }

    boolean isUp(int node) {
        number(node);
        return all.nodes[node].up;
    }

    int partition(int node) {
        number(node);
        return all.nodes[node].partition;
    }

    int incarnation(int node) {
        number(node);
        return all.nodes[node].incarnation;
    }

    boolean reaches(int node, int other) {
        number(node);
        number(other);
        Node a = all.nodes[node];
        Node b = all.nodes[other];
        return a != b && a.up && b.up && a.partition == b.partition && !a.cut[other];
    }

    // ---- news

    private boolean takeIn(int node, News news) {
        Node self = all.nodes[node];
        if (news.about == node) {
            if (news.state.equals("alive") || news.incarnation < self.incarnation) {
                return false;
            }
            self.incarnation = news.incarnation + 1;
            self.counters[node] = all.fanOut;
            all.refutations++;
            somethingChanged = true;
            return true;
        }
        View view = self.views[news.about];
        boolean same = news.incarnation == view.incarnation;
        if (view.is("unknown")
                || news.incarnation > view.incarnation
                || same && news.state.equals("suspect") && view.is("alive")
                || same && news.state.equals("dead") && !view.is("dead")) {
            become(node, news.about, news.state, news.incarnation);
            return true;
        }
        return false;
    }

    private void become(int node, int about, String state, int incarnation) {
        View view = all.nodes[node].views[about];
        view.state = state;
        view.incarnation = incarnation;
        if (state.equals("suspect")) {
            view.deadline = all.round + all.patience;
        }
        all.nodes[node].counters[about] = all.fanOut;
        somethingChanged = true;
    }

    private News newsOf(int node, int about) {
        if (about == node) {
            return new News(node, "alive", all.nodes[node].incarnation);
        }
        View view = all.nodes[node].views[about];
        return new News(about, view.state, view.incarnation);
    }

    private List<News> message(int from, int to) {
        Node sender = all.nodes[from];
        List<Integer> order = new ArrayList<>();
        for (int k = 0; k < 8; k++) {
            if (sender.counters[k] > 0) {
                order.add(k);
            }
        }
        order.sort((a, b) -> sender.counters[a] != sender.counters[b]
                ? sender.counters[b] - sender.counters[a] : a - b);
        List<News> sent = new ArrayList<>();
        boolean ahead = sender.views[to].is("suspect") || sender.views[to].is("dead");
        if (ahead) {
            sent.add(newsOf(from, to));
        }
        for (int about : order.subList(0, Math.min(3, order.size()))) {
            sender.counters[about]--;
            if (!(ahead && about == to)) {
                sent.add(newsOf(from, about));
            }
        }
        all.messages++;
        return sent;
    }

    // ---- rounds

    private int draw(int n) {
        all.seed = (all.seed * 1103515245L + 12345L) % 2147483648L;
        return (int) (all.seed / 256 % n);
    }

    private void oneRound() {
        somethingChanged = false;
        all.round++;
        for (int node = 0; node < 8; node++) {
            if (all.nodes[node].up) {
                turn(node);
            }
        }
        all.quiet = somethingChanged ? 0 : all.quiet + 1;
    }

    private void turn(int node) {
        View[] views = all.nodes[node].views;
        for (int k = 0; k < 8; k++) {
            if (views[k].is("suspect") && views[k].deadline <= all.round) {
                become(node, k, "dead", views[k].incarnation);
                all.declarations++;
                if (reaches(node, k)) {
                    all.falseDeclarations++;
                }
            }
        }
        List<Integer> partners = new ArrayList<>();
        for (int k = 0; k < 8; k++) {
            if (views[k].is("alive") || views[k].is("suspect")) {
                partners.add(k);
            }
        }
        if (partners.isEmpty()) {
            return;
        }
        int partner = partners.get(draw(partners.size()));
        if (reaches(node, partner)) {
            for (News news : message(node, partner)) {
                takeIn(partner, news);
            }
            for (News news : message(partner, node)) {
                takeIn(node, news);
            }
            return;
        }
        List<Integer> helpers = new ArrayList<>();
        while (helpers.size() < all.helpers) {
            List<Integer> candidates = new ArrayList<>();
            for (int k = 0; k < 8; k++) {
                if (views[k].is("alive") && k != partner && !helpers.contains(k)) {
                    candidates.add(k);
                }
            }
            if (candidates.isEmpty()) {
                break;
            }
            helpers.add(candidates.get(draw(candidates.size())));
        }
        for (int helper : helpers) {
            if (reaches(node, helper) && reaches(helper, partner)) {
                return;
            }
        }
        if (views[partner].is("alive")) {
            become(node, partner, "suspect", views[partner].incarnation);
        }
    }

    int rounds(int count) {
        argument(count >= 1 && count <= 50);
        for (int k = 0; k < count; k++) {
            oneRound();
        }
        return all.round;
    }

    int roundsUntilAgreement(int most) {
        argument(most >= 1 && most <= 100);
        for (int done = 0; done <= most; done++) {
            if (agree()) {
                return done;
            }
            if (done < most) {
                oneRound();
            }
        }
        throw new NoSuchElementException();
    }

    int round() {
        return all.round;
    }

    // ---- views

    int view(int node, int other) {
        twoNumbers(node, other);
        for (int k = 0; k < 4; k++) {
            if (all.nodes[node].views[other].is(STATES[k])) {
                return k;
            }
        }
        throw new AssertionError();
    }

    int viewIncarnation(int node, int other) {
        twoNumbers(node, other);
        return all.nodes[node].views[other].incarnation;
    }

    int deadline(int node, int other) {
        twoNumbers(node, other);
        if (!all.nodes[node].views[other].is("suspect")) {
            throw new NoSuchElementException();
        }
        return all.nodes[node].views[other].deadline;
    }

    int counter(int node, int about) {
        number(node);
        number(about);
        return all.nodes[node].counters[about];
    }

    boolean tell(int node, int about, int state, int incarnation) {
        number(node);
        number(about);
        state(all.nodes[node].up);
        argument(state >= 1 && state <= 3 && incarnation >= 0 && incarnation <= 1000);
        all.quiet = 0;
        return takeIn(node, new News(about, STATES[state], incarnation));
    }

    int alive(int node) {
        number(node);
        int set = 0;
        for (int k = 0; k < 8; k++) {
            if (all.nodes[node].views[k].is("alive")) {
                set += 1 << k;
            }
        }
        return set;
    }

    // ---- measures

    private boolean differ(int node, int other, int third) {
        View a = all.nodes[node].views[third];
        View b = all.nodes[other].views[third];
        return !a.state.equals(b.state) || a.incarnation != b.incarnation;
    }

    private boolean knows(int node, int other) {
        View view = all.nodes[node].views[other];
        return view.is("alive") && view.incarnation == all.nodes[other].incarnation;
    }

    boolean agree() {
        for (int a = 0; a < 8; a++) {
            for (int b = 0; b < 8; b++) {
                if (reaches(a, b) && !knows(a, b)) {
                    return false;
                }
            }
        }
        return disagreements() == 0;
    }

    int disagreements() {
        int count = 0;
        for (int a = 0; a < 8; a++) {
            for (int b = a + 1; b < 8; b++) {
                for (int third = 0; third < 8; third++) {
                    if (third != a && third != b && reaches(a, b) && differ(a, b, third)) {
                        count++;
                    }
                }
            }
        }
        return count;
    }

    int declarations() {
        return all.declarations;
    }

    int falseDeclarations() {
        return all.falseDeclarations;
    }

    int refutations() {
        return all.refutations;
    }

    int messages() {
        return all.messages;
    }

    int quietRounds() {
        return all.quiet;
    }

    double averageCounter(int node) {
        number(node);
        int sum = 0;
        for (int count : all.nodes[node].counters) {
            sum += count;
        }
        return (double) sum / (double) 8;
    }

    float falseShare() {
        if (all.declarations == 0) {
            throw new ArithmeticException();
        }
        return (float) all.falseDeclarations / (float) all.declarations;
    }

    // ---- texts

    int appendCharacter(int character) {
        argument(character >= 33 && character <= 126);
        state(text.length() < 40);
        text += (char) character;
        return text.length();
    }

    /** Whether a text can be continued to a command text, or is one. */
    private static boolean begins(String start) {
        String whole = "(c[0-7]|j[0-7][0-7]|p[0-7][0-3]|r[1-9])";
        String part = "(c|j|j[0-7]|p|p[0-7]|r)";
        return start.matches("(" + whole + ";)*(" + whole + "|" + part + ")?");
    }

    private static boolean isCommandText(String candidate) {
        String whole = "(c[0-7]|j[0-7][0-7]|p[0-7][0-3]|r[1-9])";
        return candidate.matches(whole + "(;" + whole + ")*");
    }

    int runText() {
        String read = text;
        text = "";
        met = null;
        if (!isCommandText(read)) {
            int fault = 0;
            while (fault < read.length() && begins(read.substring(0, fault + 1))) {
                fault++;
            }
            met = new int[] {1, fault};
            throw new IllegalArgumentException();
        }
        String[] commands = read.split(";");
        for (int k = 0; k < commands.length; k++) {
            try {
                carryOut(commands[k]);
            } catch (IllegalStateException e) {
                met = new int[] {2, k};
            } catch (IllegalArgumentException e) {
                met = new int[] {3, k};
            }
            state(met == null);
        }
        return commands.length;
    }

    private void carryOut(String command) {
        int first = command.charAt(1) - '0';
        int second = command.length() == 3 ? command.charAt(2) - '0' : 0;
        switch (command.charAt(0)) {
            case 'c' -> crash(first);
            case 'j' -> join(first, second);
            case 'p' -> move(first, second);
            default -> rounds(first);
        }
    }

    int failure(int part) {
        argument(part == 0 || part == 1);
        if (met == null) {
            throw new NoSuchElementException();
        }
        return met[part];
    }

    // ---- saving

    void save() {
        saved = all.copy();
    }

    void restore() {
        state(saved != null);
        all = saved.copy();
    }
}
