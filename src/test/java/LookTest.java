/** Promises 11 to 15: what there is. */
public final class LookTest {
    private static final int LOW = Integer.MIN_VALUE, HIGH = Integer.MAX_VALUE;
    private static final Checks checks = new Checks();

    public static void main(String[] args) {
        ofDeal();
        at();
        message();
        who();
        count();
        looksChangeNothing();
        checks.end();
    }

    /** Deal 0 of all: NEW for 0, READY for 1, POSTED for nobody, TORN for 3, 2 READY and its vote came; deal 1 of 0 is DONE. */
    private static ClerkVotes mixed() {
        ClerkVotes x = new ClerkVotes();
        x.willing(3, 0);
        x.ticks(3);
        x.open(15);
        x.open(1);
        x.deliver(4);
        x.deliver(4);
        x.deliver(4);
        x.deliver(4);
        x.deliver(1);
        x.deliver(1);
        x.deliver(1);
        x.deliver(2);
        return x;
    }

    private static void ofDeal() {
        checks.about("promise 11");
        ClerkVotes x = mixed();
        int[] first = {15, 0, 3, 4, 0, 1, 6, 0, 8};
        int[] second = {1, 3, 3, 1, 1, 0, 0, 1, 0};
        for (int what = 0; what <= 8; what++) {
            checks.due("ofDeal(0, " + what + ")", x.ofDeal(0, what), first[what]);
            checks.due("ofDeal(1, " + what + ")", x.ofDeal(1, what), second[what]);
        }
        checks.due("ofDeal(2, 0)", x.ofDeal(2, 0), -1);
        checks.due("ofDeal(-1, 0)", x.ofDeal(-1, 0), -1);
        checks.due("ofDeal(HIGH, 9)", x.ofDeal(HIGH, 9), -1);
        checks.due("ofDeal(2, 9)", x.ofDeal(2, 9), -1);
        checks.due("ofDeal(0, 9)", x.ofDeal(0, 9), -2);
        checks.due("ofDeal(0, -1)", x.ofDeal(0, -1), -2);
        checks.due("ofDeal(0, LOW)", x.ofDeal(0, LOW), -2);
        // TEAR, and a vote that came before it stays.
        x.deliver(2);
        checks.due("ofDeal(0, 1)", x.ofDeal(0, 1), 2);
        checks.due("ofDeal(0, 3)", x.ofDeal(0, 3), 4);
    }

    private static void at() {
        checks.about("promise 12");
        ClerkVotes x = mixed();
        int[] first = {0, 1, 1, 3};
        int[] second = {2, -6, -6, -6};
        for (int clerk = 0; clerk < 4; clerk++) {
            checks.due("at(0, " + clerk + ")", x.at(0, clerk), first[clerk]);
            checks.due("at(1, " + clerk + ")", x.at(1, clerk), second[clerk]);
        }
        checks.due("at(0, 4)", x.at(0, 4), -1);
        checks.due("at(0, -1)", x.at(0, -1), -1);
        checks.due("at(1, 4)", x.at(1, 4), -1);
        checks.due("at(2, 0)", x.at(2, 0), -1);
        checks.due("at(-1, 0)", x.at(-1, 0), -1);
        checks.due("at(7, 0)", x.at(7, 0), -1);
        checks.due("at(8, 0)", x.at(8, 0), -1);
        checks.due("at(HIGH, LOW)", x.at(HIGH, LOW), -1);
    }

    private static void message() {
        checks.about("promise 13");
        ClerkVotes x = mixed();
        checks.holds("the row is as due, but it is " + Everything.row(x), Everything.row(x).equals("0040 1014 2034"));
        checks.due("message(3, 0)", x.message(3, 0), -1);
        checks.due("message(-1, 0)", x.message(-1, 0), -1);
        checks.due("message(3, 4)", x.message(3, 4), -1);
        checks.due("message(60, 0)", x.message(60, 0), -1);
        checks.due("message(HIGH, 0)", x.message(HIGH, 0), -1);
        checks.due("message(0, 4)", x.message(0, 4), -2);
        checks.due("message(2, -1)", x.message(2, -1), -2);
        checks.due("message(0, HIGH)", x.message(0, HIGH), -2);
    }

    private static void who() {
        checks.about("promise 14");
        ClerkVotes x = mixed();
        x.fall(1);
        x.twice(0);
        int[][] want = {
            {0, 1, 2, 2, 2},
            {1, 1, 0, 1, 1},
            {0, 1, 0, 1, 1},
            {0, 0, 0, 1, 1},
            {0, 1, 2, 3, 6},
        };
        for (int who = 0; who <= 4; who++) {
            for (int what = 0; what <= 4; what++) {
                checks.due("who(" + who + ", " + what + ")", x.who(who, what), want[who][what]);
            }
        }
        checks.due("who(5, 0)", x.who(5, 0), -1);
        checks.due("who(-1, 0)", x.who(-1, 0), -1);
        checks.due("who(5, 5)", x.who(5, 5), -1);
        checks.due("who(LOW, 0)", x.who(LOW, 0), -1);
        checks.due("who(4, 5)", x.who(4, 5), -2);
        checks.due("who(0, -1)", x.who(0, -1), -2);
        checks.due("who(0, HIGH)", x.who(0, HIGH), -2);
    }

    private static void count() {
        checks.about("promise 15");
        ClerkVotes x = mixed();
        x.set(0, 11);
        x.set(1, 12);
        x.set(2, 13);
        x.set(3, 1);
        x.lose(0);
        x.put('w');
        int[] want = {3, 2, 2, 8, 1, 1, 6, 11, 12, 13, 1, 1, 1, 0};
        for (int what = 0; what < want.length; what++) {
            checks.due("count(" + what + ")", x.count(what), want[what]);
        }
        checks.due("count(14)", x.count(14), -2);
        checks.due("count(-1)", x.count(-1), -2);
        checks.due("count(LOW)", x.count(LOW), -2);
        checks.due("count(HIGH)", x.count(HIGH), -2);
    }

    private static void looksChangeNothing() {
        checks.about("looks");
        ClerkVotes x = mixed();
        String before = Everything.of(x);
        for (int i = -1; i <= 14; i++) {
            for (int j = -1; j <= 9; j++) {
                x.ofDeal(i, j);
                x.at(i, j);
                x.message(i, j);
                x.who(i, j);
            }
            x.count(i);
        }
        checks.holds("looks change nothing", Everything.of(x).equals(before));
    }
}
