/** Promises 2 to 10: what the changes answer, their errors in order, and that an error changes nothing. */
public final class ChangesTest {
    private static final int LOW = Integer.MIN_VALUE, HIGH = Integer.MAX_VALUE;
    private static final Checks checks = new Checks();

    public static void main(String[] args) {
        settings();
        willing();
        open();
        openErrors();
        deliverAndLose();
        twice();
        fallAndRise();
        whatIllnessForgets();
        ticks();
        errorsChangeNothing();
        checks.end();
    }

    private static void settings() {
        checks.about("promise 2");
        ClerkVotes x = new ClerkVotes();
        int[] first = {6, 4, 5, 0};
        int[] least = {1, 1, 1, 0};
        int[] most = {50, 50, 50, 1};
        for (int setting = 0; setting < 4; setting++) {
            String call = "set(" + setting + ", ..)";
            checks.due(call + " too low", x.set(setting, least[setting] - 1), -2);
            checks.due(call + " too high", x.set(setting, most[setting] + 1), -2);
            checks.due(call + " far too low", x.set(setting, LOW), -2);
            checks.due(call + " far too high", x.set(setting, HIGH), -2);
            checks.due(call + " least", x.set(setting, least[setting]), first[setting]);
            checks.due("count after least", x.count(7 + setting), least[setting]);
            checks.due(call + " most", x.set(setting, most[setting]), least[setting]);
            checks.due("count after most", x.count(7 + setting), most[setting]);
            checks.due(call + " the same again", x.set(setting, most[setting]), most[setting]);
        }
        checks.due("set(-1, 5)", x.set(-1, 5), -2);
        checks.due("set(4, 5)", x.set(4, 5), -2);
        checks.due("set(LOW, 1)", x.set(LOW, 1), -2);
        checks.due("set(HIGH, 1)", x.set(HIGH, 1), -2);
        checks.due("changes", x.count(6), 6);
    }

    private static void willing() {
        checks.about("promise 3");
        ClerkVotes x = new ClerkVotes();
        checks.due("willing(0, 0)", x.willing(0, 0), 1);
        checks.due("willing(0, 0)", x.willing(0, 0), 0);
        checks.due("willing(0, 1)", x.willing(0, 1), 0);
        checks.due("willing(0, 1)", x.willing(0, 1), 1);
        checks.due("willing(3, 0)", x.willing(3, 0), 1);
        checks.due("who(3, 1)", x.who(3, 1), 0);
        checks.due("who(2, 1)", x.who(2, 1), 1);
        checks.due("willing(4, 1)", x.willing(4, 1), -1);
        checks.due("willing(-1, 1)", x.willing(-1, 1), -1);
        checks.due("willing(4, 2)", x.willing(4, 2), -1);
        checks.due("willing(HIGH, LOW)", x.willing(HIGH, LOW), -1);
        checks.due("willing(0, 2)", x.willing(0, 2), -2);
        checks.due("willing(0, -1)", x.willing(0, -1), -2);
        checks.due("who(0, 1)", x.who(0, 1), 1);
        checks.due("changes", x.count(6), 5);
    }

    private static void open() {
        checks.about("promise 4");
        ClerkVotes x = new ClerkVotes();
        checks.due("open(5)", x.open(5), 0);
        checks.holds("ASK went to clerks 0 and 2", Everything.row(x).equals("0040 0042"));
        x.ticks(2);
        checks.due("open(15)", x.open(15), 1);
        checks.holds("ASK went to all", Everything.row(x).equals("0040 0042 0140 0141 0142 0143"));
        checks.due("clerks", x.ofDeal(1, 0), 15);
        checks.due("ASKING", x.ofDeal(1, 1), 0);
        checks.due("opened in", x.ofDeal(1, 2), 2);
        checks.due("votes", x.ofDeal(1, 3), 0);
        checks.due("receipts", x.ofDeal(1, 4), 0);
        checks.due("NEW", x.ofDeal(1, 5), 15);
        checks.due("sent by the go-between", x.who(4, 4), 6);
        // A deal is NEW for an ill clerk, too, and ASK is sent there.
        x.fall(1);
        checks.due("open(2)", x.open(2), 2);
        checks.due("at(2, 1)", x.at(2, 1), 0);
        checks.due("messages", x.count(2), 7);
    }

    private static void openErrors() {
        checks.about("promise 4");
        ClerkVotes x = new ClerkVotes();
        checks.due("open(0)", x.open(0), -2);
        checks.due("open(16)", x.open(16), -2);
        checks.due("open(-1)", x.open(-1), -2);
        checks.due("open(LOW)", x.open(LOW), -2);
        checks.due("open(HIGH)", x.open(HIGH), -2);
        x.fall(4);
        checks.due("open(1), the go-between is ill", x.open(1), -5);
        checks.due("open(16), the go-between is ill", x.open(16), -2);
        x.rise(4);
        for (int deal = 0; deal < 8; deal++) {
            checks.due("open(1)", x.open(1), deal);
        }
        checks.due("open(1), a ninth one", x.open(1), -4);
        checks.due("open(0), a ninth one", x.open(0), -2);
        x.fall(4);
        checks.due("open(1), a ninth one, ill", x.open(1), -4);
        checks.due("deals", x.count(1), 8);
    }

    private static void deliverAndLose() {
        checks.about("promises 5 and 6");
        ClerkVotes x = new ClerkVotes();
        checks.due("deliver(0), none there", x.deliver(0), -1);
        checks.due("lose(0), none there", x.lose(0), -1);
        x.open(15);
        checks.due("deliver(4)", x.deliver(4), -1);
        checks.due("deliver(-1)", x.deliver(-1), -1);
        checks.due("deliver(HIGH)", x.deliver(HIGH), -1);
        checks.due("lose(4)", x.lose(4), -1);
        checks.due("lose(-1)", x.lose(-1), -1);
        checks.due("lose(LOW)", x.lose(LOW), -1);
        checks.due("lose(1)", x.lose(1), 3);
        checks.holds("the others move up", Everything.row(x).equals("0040 0042 0043"));
        checks.due("lost", x.count(4), 1);
        checks.due("delivered", x.count(3), 0);
        checks.due("lose(2)", x.lose(2), 2);
        checks.due("deliver(1)", x.deliver(1), 2);
        checks.holds("YES is at the end", Everything.row(x).equals("0040 1024"));
        checks.due("delivered", x.count(3), 1);
        checks.due("delivered to clerk 2", x.who(2, 3), 1);
        checks.due("lost", x.count(4), 2);
        checks.due("deliver(1)", x.deliver(1), 1);
        checks.due("votes", x.ofDeal(0, 3), 4);
        checks.due("lose(0)", x.lose(0), 0);
        checks.due("changes", x.count(6), 6);
    }

    private static void twice() {
        checks.about("promise 7");
        ClerkVotes x = new ClerkVotes();
        checks.due("twice(0), none there", x.twice(0), -1);
        x.open(3);
        x.open(8);
        checks.due("twice(-1)", x.twice(-1), -1);
        checks.due("twice(3)", x.twice(3), -1);
        checks.due("twice(1)", x.twice(1), 4);
        checks.holds("it comes to the end", Everything.row(x).equals("0040 0041 0143 0041"));
        checks.due("twice(3)", x.twice(3), 5);
        checks.due("sent by the go-between", x.who(4, 4), 3);
        checks.due("on their way to clerk 1", x.who(1, 2), 3);
        for (int messages = 6; messages <= 60; messages++) {
            checks.due("twice(2)", x.twice(2), messages);
        }
        checks.due("twice(0) at 60", x.twice(0), -4);
        checks.due("twice(59) at 60", x.twice(59), -4);
        checks.due("twice(60) at 60", x.twice(60), -1);
        checks.due("lost", x.count(4), 0);
        checks.due("message(59, 3)", x.message(59, 3), 3);
        // One that is delivered leaves the row first: there is room for its answer.
        checks.due("deliver(59) at 60", x.deliver(59), 60);
        checks.due("message(59, 0)", x.message(59, 0), 1);
        checks.due("lost", x.count(4), 0);
        // Two more are sent at 60: they are lost at once, and count as sent.
        checks.due("open(5)", x.open(5), 2);
        checks.due("messages", x.count(2), 60);
        checks.due("lost", x.count(4), 2);
        checks.due("sent by the go-between", x.who(4, 4), 5);
    }

    private static void fallAndRise() {
        checks.about("promises 8 and 9");
        ClerkVotes x = new ClerkVotes();
        checks.due("fall(-1)", x.fall(-1), -1);
        checks.due("fall(5)", x.fall(5), -1);
        checks.due("fall(HIGH)", x.fall(HIGH), -1);
        checks.due("rise(-1)", x.rise(-1), -1);
        checks.due("rise(5)", x.rise(5), -1);
        checks.due("rise(LOW)", x.rise(LOW), -1);
        for (int who = 0; who <= 4; who++) {
            checks.due("rise, well", x.rise(who), -5);
            checks.due("fall", x.fall(who), who + 1);
            checks.due("fall, ill", x.fall(who), -5);
            checks.due("who(.., 0)", x.who(who, 0), 1);
        }
        for (int who = 0; who <= 4; who++) {
            checks.due("rise", x.rise(who), 4 - who);
            checks.due("rise, well", x.rise(who), -5);
            checks.due("who(.., 0)", x.who(who, 0), 0);
        }
        checks.due("changes", x.count(6), 6);
    }

    private static void whatIllnessForgets() {
        checks.about("promise 8");
        ClerkVotes x = new ClerkVotes();
        x.open(3);
        x.open(1);
        x.deliver(0);
        x.fall(0);
        checks.due("READY stays", x.at(0, 0), 1);
        checks.due("NEW becomes TORN", x.at(1, 0), 3);
        checks.due("of another clerk nothing changes", x.at(0, 1), 0);
        checks.due("the go-between does not know", x.ofDeal(1, 1), 0);
        checks.due("nothing is sent", x.count(2), 3);
        x.fall(1);
        checks.due("who takes no part stays so", x.at(1, 1), -6);
        checks.due("TORN", x.ofDeal(1, 8), 1);

        ClerkVotes y = new ClerkVotes();
        y.open(3);
        y.deliver(0);
        y.deliver(0);
        y.deliver(0);
        y.deliver(0);
        y.deliver(0);
        y.deliver(1);
        checks.holds("a receipt has come", Everything.row(y).equals("3041") && y.ofDeal(0, 4) == 1);
        y.open(4);
        y.fall(4);
        checks.due("ASKING becomes TEAR", y.ofDeal(1, 1), 2);
        checks.due("POST stays", y.ofDeal(0, 1), 1);
        checks.due("receipts are forgotten", y.ofDeal(0, 4), 0);
        checks.due("votes are not", y.ofDeal(0, 3), 3);
        checks.due("nothing is sent", y.count(2), 2);
        checks.due("for the clerks nothing changes", y.at(0, 0), 2);
        y.rise(4);
        y.deliver(0);
        y.deliver(1);
        checks.due("only the new receipt counts", y.ofDeal(0, 4), 2);
        checks.due("POST still", y.ofDeal(0, 1), 1);
    }

    private static void ticks() {
        checks.about("promise 10");
        ClerkVotes x = new ClerkVotes();
        checks.due("ticks(0)", x.ticks(0), -2);
        checks.due("ticks(-1)", x.ticks(-1), -2);
        checks.due("ticks(101)", x.ticks(101), -2);
        checks.due("ticks(LOW)", x.ticks(LOW), -2);
        checks.due("ticks(HIGH)", x.ticks(HIGH), -2);
        checks.due("ticks(1)", x.ticks(1), 1);
        checks.due("ticks(100)", x.ticks(100), 101);
        checks.due("count(0)", x.count(0), 101);
        checks.due("changes", x.count(6), 2);
    }

    private static void errorsChangeNothing() {
        checks.about("errors");
        ClerkVotes x = new ClerkVotes();
        x.willing(2, 0);
        x.open(7);
        x.deliver(1);
        x.fall(3);
        x.put('x');
        String before = Everything.of(x);
        x.set(0, 51);
        x.set(9, 1);
        x.willing(5, 1);
        x.willing(2, 3);
        x.open(99);
        x.deliver(3);
        x.lose(3);
        x.twice(3);
        x.fall(3);
        x.rise(0);
        x.ticks(0);
        x.carryOut();
        x.put(1);
        x.save(2);
        x.restore(0);
        x.restore(2);
        checks.holds("nothing is different", Everything.of(x).equals(before));
        checks.due("count(6)", x.count(6), 4);
    }
}
