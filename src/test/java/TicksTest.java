/** Promise 10: what happens in ticks. */
public final class TicksTest {
    private static final Checks checks = new Checks();

    public static void main(String[] args) {
        patience();
        patienceIsChanged();
        illBetween();
        again();
        doubt();
        doubtAndElders();
        orderWithinATick();
        fullRowInATick();
        checks.end();
    }

    private static void row(ClerkVotes x, String want) {
        checks.holds("the row is " + want + ", but it is " + Everything.row(x), Everything.row(x).equals(want));
    }

    private static void loseAll(ClerkVotes x) {
        while (x.count(2) > 0) {
            x.lose(0);
        }
    }

    private static void patience() {
        checks.about("PATIENCE");
        ClerkVotes x = new ClerkVotes();
        x.ticks(2);
        x.open(5);
        loseAll(x);
        checks.due("ticks(6)", x.ticks(6), 8);
        checks.due("ASKING", x.ofDeal(0, 1), 0);
        row(x, "");
        x.ticks(1);
        checks.due("TEAR", x.ofDeal(0, 1), 2);
        row(x, "4040 4042");
        checks.due("NEW for the clerks", x.ofDeal(0, 5), 5);
        x.ticks(50);
        row(x, "4040 4042");
    }

    private static void patienceIsChanged() {
        checks.about("PATIENCE, changed");
        ClerkVotes x = new ClerkVotes();
        x.set(0, 50);
        x.open(1);
        x.open(2);
        loseAll(x);
        x.ticks(50);
        row(x, "");
        x.set(0, 1);
        x.open(4);
        x.lose(0);
        x.ticks(1);
        checks.holds("older ones end at once, in order", Everything.row(x).equals("4040 4141"));
        checks.due("ASKING", x.ofDeal(2, 1), 0);
        x.ticks(1);
        row(x, "4040 4141 4242");
    }

    private static void illBetween() {
        checks.about("an ill go-between");
        ClerkVotes x = new ClerkVotes();
        x.open(1);
        x.deliver(0);
        x.deliver(0);
        x.lose(0);
        x.set(1, 50);
        x.fall(4);
        x.ticks(12);
        row(x, "");
        x.rise(4);
        x.ticks(3);
        row(x, "");
        x.ticks(1);
        checks.holds("POSTS again in tick 15", x.count(0) == 16 && Everything.row(x).equals("3040"));
    }

    private static void again() {
        checks.about("AGAIN");
        ClerkVotes x = new ClerkVotes();
        x.set(1, 50);
        x.open(7);
        x.ticks(3);
        for (int i = 0; i < 6; i++) {
            x.deliver(0);
        }
        row(x, "3040 3041 3042");
        x.deliver(1);
        x.deliver(2);
        checks.due("receipts", x.ofDeal(0, 4), 2);
        loseAll(x);
        x.ticks(1);
        row(x, "");
        x.ticks(4);
        row(x, "");
        x.ticks(1);
        row(x, "3040 3042");
        x.ticks(4);
        row(x, "3040 3042");
        x.ticks(1);
        row(x, "3040 3042 3040 3042");
        x.set(2, 7);
        x.ticks(3);
        row(x, "3040 3042 3040 3042");
        x.ticks(1);
        checks.holds("in tick 17, 14 ticks since", x.count(0) == 18 && x.count(2) == 6);
        // DONE: no more.
        x.deliver(0);
        x.deliver(0);
        x.deliver(4);
        x.deliver(4);
        checks.due("DONE", x.ofDeal(0, 1), 3);
        checks.due("messages", x.count(2), 4);
        x.ticks(40);
        checks.due("messages", x.count(2), 4);
    }

    private static void doubt() {
        checks.about("DOUBT");
        ClerkVotes x = new ClerkVotes();
        x.set(0, 50);
        x.open(3);
        x.ticks(1);
        x.deliver(0);
        x.lose(0);
        x.lose(0);
        x.ticks(4);
        row(x, "");
        x.ticks(1);
        row(x, "6004");
        checks.due("sent by clerk 0", x.who(0, 4), 2);
        x.ticks(3);
        row(x, "6004");
        x.ticks(1);
        row(x, "6004 6004");
        x.fall(0);
        x.ticks(4);
        row(x, "6004 6004");
        x.rise(0);
        checks.due("READY still", x.at(0, 0), 1);
        x.set(1, 13);
        x.ticks(1);
        checks.holds("in tick 14, 13 ticks since", x.count(0) == 15 && Everything.row(x).equals("6004 6004 6004"));
        // Asked again it is not READY anew: an ASK that comes once more does not start the count again.
        ClerkVotes y = new ClerkVotes();
        y.open(3);
        y.twice(0);
        y.deliver(0);
        y.ticks(2);
        y.deliver(1);
        loseAll(y);
        y.ticks(3);
        row(y, "6004");
    }

    private static void doubtAndElders() {
        checks.about("DOUBT and ELDERS");
        ClerkVotes x = new ClerkVotes();
        x.set(3, 1);
        x.set(0, 50);
        x.open(13);
        x.deliver(1);
        loseAll(x);
        x.ticks(5);
        row(x, "6024 6020 6023");
        checks.due("sent by clerk 2", x.who(2, 4), 4);
        x.set(3, 0);
        x.ticks(4);
        row(x, "6024 6020 6023 6024");
        // With nobody else in the deal, only the go-between is asked.
        ClerkVotes y = new ClerkVotes();
        y.set(3, 1);
        y.set(1, 1);
        y.open(8);
        y.deliver(0);
        y.lose(0);
        y.ticks(2);
        row(y, "6034");
    }

    private static void orderWithinATick() {
        checks.about("the order within a tick");
        // The go-between first, deal by deal; then clerk by clerk, and for each of them deal by deal.
        ClerkVotes x = new ClerkVotes();
        x.set(0, 4);
        x.set(2, 4);
        x.open(3);
        x.open(3);
        for (int i = 0; i < 4; i++) {
            x.deliver(0);
        }
        x.deliver(2);
        x.deliver(2);
        row(x, "1004 1014 3140 3141");
        loseAll(x);
        x.ticks(4);
        row(x, "");
        x.ticks(1);
        row(x, "4040 4041 3140 3141 6004 6104 6014 6114");
        checks.due("tick", x.count(0), 5);
    }

    private static void fullRowInATick() {
        checks.about("60 messages");
        ClerkVotes x = new ClerkVotes();
        x.set(1, 1);
        x.set(3, 1);
        for (int deal = 0; deal < 4; deal++) {
            x.open(15);
        }
        for (int i = 0; i < 16; i++) {
            x.deliver(0);
        }
        loseAll(x);
        checks.due("lost", x.count(4), 16);
        x.ticks(2);
        // Sixteen clerks and deals, four messages each: 64.
        checks.due("messages", x.count(2), 60);
        checks.due("lost", x.count(4), 20);
        checks.due("sent by clerk 3", x.who(3, 4), 20);
        checks.due("the last one", Everything.message(x, 59), 6232);
    }
}
