/** The limits that 'Terms' names: 8 deals, 60 messages, the settings' least and most values, 512 calls. */
public final class TermsTest {
    private static final int BAD_VALUE = -2, TOO_MANY = -4, NOT_POSSIBLE = -5, NONE = -6;
    private static final int POSTED = 2, TORN = 3;
    private static final int ASKING = 0, POST = 1, TEAR = 2, DONE = 3;
    private static final Checks checks = new Checks();

    public static void main(String[] args) {
        lastOf512Calls();
        numbersOfDeals();
        settledDealsCount();
        undoneDealsDoNotCount();
        refusedDealsDoNotCount();
        ninthDealOfAText();
        dealOpenedOnceMoreIsEmpty();
        wellAgainCanOpen();
        sixtyOpened();
        roomForSomeClerksOnly();
        noRoomAtAll();
        roomAgain();
        roomOfADeliveredMessage();
        lostOnesOfTheGoBetweenStillChangeIt();
        patience();
        doubt();
        again();
        elders();
        checks.end();
    }

    private static void row(ClerkVotes x, String want) {
        checks.holds("the row is " + want + ", but it is " + Everything.row(x), Everything.row(x).equals(want));
    }

    private static void loseAll(ClerkVotes x) {
        while (x.count(2) > 0) {
            x.lose(0);
        }
    }

    private static void lastOf512Calls() {
        checks.about("512 calls");
        ClerkVotes x = new ClerkVotes();
        for (int call = 1; call <= 512; call++) {
            checks.due("ticks(100), call " + call, x.ticks(100), 100 * call);
        }
        ClerkVotes y = new ClerkVotes();
        y.set(1, 1);
        y.set(3, 1);
        y.open(15);
        y.open(15);
        for (int i = 0; i < 8; i++) {
            y.deliver(0);
        }
        for (int call = 13; call <= 510; call++) {
            y.ticks(100);
        }
        // Two deals, four clerks, four questions each: 32 a tick; the first tick in which they became READY has none.
        checks.due("messages, call 511", y.count(2), 60);
        checks.due("sent by clerk 3, call 512", y.who(3, 4), 2 + 8 * (49_800 - 1));
    }

    private static void numbersOfDeals() {
        checks.about("8 deals");
        ClerkVotes x = new ClerkVotes();
        for (int deal = 0; deal < 8; deal++) {
            checks.due("count(1)", x.count(1), deal);
            checks.due("open(4)", x.open(4), deal);
            checks.due("message(deal, 1)", x.message(deal, 1), deal);
        }
        checks.due("count(1)", x.count(1), 8);
        checks.due("open(4)", x.open(4), TOO_MANY);
        checks.due("count(1)", x.count(1), 8);
        checks.due("count(2)", x.count(2), 8);
        checks.due("ofDeal(7, 0)", x.ofDeal(7, 0), 4);
    }

    private static void settledDealsCount() {
        checks.about("8 deals that ever were opened");
        ClerkVotes x = new ClerkVotes();
        x.willing(1, 0);
        for (int deal = 0; deal < 8; deal++) {
            x.open(deal % 2 == 0 ? 1 : 2);
            while (x.count(2) > 0) {
                x.deliver(0);
            }
        }
        checks.due("DONE", x.ofDeal(6, 1), DONE);
        checks.due("TEAR", x.ofDeal(7, 1), TEAR);
        checks.due("open(1)", x.open(1), TOO_MANY);
    }

    private static void undoneDealsDoNotCount() {
        checks.about("8 deals, undone");
        ClerkVotes x = new ClerkVotes();
        for (int deal = 0; deal < 7; deal++) {
            x.open(1);
        }
        x.save(0);
        checks.due("open(1)", x.open(1), 7);
        checks.due("open(1)", x.open(1), TOO_MANY);
        x.undo();
        checks.due("open(1), undone", x.open(1), 7);
        checks.due("open(1)", x.open(1), TOO_MANY);
        x.restore(0);
        checks.due("open(1), restored", x.open(1), 7);
        checks.due("open(1)", x.open(1), TOO_MANY);
    }

    private static void refusedDealsDoNotCount() {
        checks.about("8 deals, refused");
        ClerkVotes x = new ClerkVotes();
        x.fall(4);
        for (int i = 0; i < 20; i++) {
            checks.due("open(1), ill", x.open(1), NOT_POSSIBLE);
            checks.due("open(16)", x.open(16), BAD_VALUE);
        }
        x.rise(4);
        checks.due("open(1)", x.open(1), 0);
    }

    private static void ninthDealOfAText() {
        checks.about("8 deals, of a text");
        ClerkVotes x = new ClerkVotes();
        Everything.put(x, "o0;o0;o0;o0;o0;o0;o0;o0");
        checks.due("carryOut(), 8 deals", x.carryOut(), 8);
        Everything.put(x, "t1;o0;t1");
        checks.due("carryOut(), a ninth one", x.carryOut(), 1);
        checks.due("count(1)", x.count(1), 8);
        checks.due("count(0)", x.count(0), 1);
    }

    private static void dealOpenedOnceMoreIsEmpty() {
        checks.about("no votes have come to a deal that is opened");
        ClerkVotes x = new ClerkVotes();
        x.save(0);
        x.open(3);
        for (int i = 0; i < 8; i++) {
            x.deliver(0);
        }
        checks.due("DONE", x.ofDeal(0, 1), DONE);
        checks.due("receipts", x.ofDeal(0, 4), 3);
        x.restore(0);
        x.ticks(9);
        checks.due("open(6)", x.open(6), 0);
        int[] want = {6, ASKING, 9, 0, 0, 6, 0, 0, 0};
        for (int what = 0; what <= 8; what++) {
            checks.due("ofDeal(0, " + what + ")", x.ofDeal(0, what), want[what]);
        }
        checks.due("at(0, 0)", x.at(0, 0), NONE);
        row(x, "0041 0042");
    }

    private static void wellAgainCanOpen() {
        checks.about("to open a deal, the go-between has to be well");
        ClerkVotes x = new ClerkVotes();
        for (int clerk = 0; clerk <= 3; clerk++) {
            x.fall(clerk);
        }
        checks.due("open(15), all clerks ill", x.open(15), 0);
        checks.due("NEW for all", x.ofDeal(0, 5), 15);
        checks.due("count(2)", x.count(2), 4);
        x.fall(4);
        checks.due("open(15), the go-between ill", x.open(15), NOT_POSSIBLE);
        x.rise(4);
        checks.due("open(15), well again", x.open(15), 1);
    }

    /** Deal 0 of clerk 0, whose ASK is on its way so many times. */
    private static ClerkVotes withMessages(int messages) {
        ClerkVotes x = new ClerkVotes();
        x.open(1);
        while (x.count(2) < messages) {
            x.twice(0);
        }
        return x;
    }

    private static void sixtyOpened() {
        checks.about("60 messages, the last ones that have room");
        ClerkVotes x = withMessages(56);
        x.open(15);
        checks.due("count(2)", x.count(2), 60);
        checks.due("lost", x.count(4), 0);
        checks.due("the last one", Everything.message(x, 59), 143);
        checks.due("on their way to clerk 3", x.who(3, 2), 1);
        checks.due("sent by the go-between", x.who(4, 4), 5);
    }

    private static void roomForSomeClerksOnly() {
        checks.about("60 messages, room for the first clerks only");
        for (int room = 0; room <= 4; room++) {
            ClerkVotes x = withMessages(60 - room);
            checks.due("open(15)", x.open(15), 1);
            checks.due("count(2)", x.count(2), 60);
            checks.due("lost", x.count(4), 4 - room);
            checks.due("delivered", x.count(3), 0);
            checks.due("sent by the go-between", x.who(4, 4), 5);
            for (int clerk = 1; clerk <= 3; clerk++) {
                checks.due("on their way to clerk " + clerk, x.who(clerk, 2), clerk < room ? 1 : 0);
            }
            checks.due("NEW for all", x.ofDeal(1, 5), 15);
        }
    }

    private static void noRoomAtAll() {
        checks.about("60 messages, no room in a tick");
        ClerkVotes x = withMessages(60);
        x.ticks(7);
        checks.due("TEAR all the same", x.ofDeal(0, 1), TEAR);
        checks.due("count(2)", x.count(2), 60);
        checks.due("lost", x.count(4), 1);
        checks.due("sent by the go-between", x.who(4, 4), 2);
        checks.due("the last one is as it was", Everything.message(x, 59), 40);
    }

    private static void roomAgain() {
        checks.about("60 messages, room again");
        ClerkVotes x = withMessages(60);
        checks.due("lose(30)", x.lose(30), 59);
        checks.due("twice(58)", x.twice(58), 60);
        checks.due("twice(58)", x.twice(58), TOO_MANY);
        x.fall(0);
        checks.due("deliver(0) to an ill one", x.deliver(0), 59);
        checks.due("open(2)", x.open(2), 1);
        checks.due("count(2)", x.count(2), 60);
        checks.due("lost", x.count(4), 2);
        checks.due("the last one", Everything.message(x, 59), 141);
    }

    private static void roomOfADeliveredMessage() {
        checks.about("60 messages, one leaves the row when it is delivered");
        ClerkVotes x = withMessages(60);
        for (int i = 0; i < 3; i++) {
            checks.due("deliver(0)", x.deliver(0), 60);
            checks.due("the last one", Everything.message(x, 59), 1004);
        }
        checks.due("lost", x.count(4), 0);
        checks.due("deliver(59), POSTS has room", x.deliver(59), 60);
        checks.due("the last one", Everything.message(x, 59), 3040);
        checks.due("POST", x.ofDeal(0, 1), POST);
        checks.due("deliver(59), GOT has room", x.deliver(59), 60);
        checks.due("POSTED", x.at(0, 0), POSTED);
        checks.due("deliver(59), nothing is sent", x.deliver(59), 59);
        checks.due("DONE", x.ofDeal(0, 1), DONE);
        checks.due("lost", x.count(4), 0);
    }

    private static void lostOnesOfTheGoBetweenStillChangeIt() {
        checks.about("60 messages, what is lost at once");
        // NO makes TEARS for three clerks: one has room.
        ClerkVotes x = new ClerkVotes();
        x.willing(0, 0);
        x.open(15);
        x.deliver(0);
        while (x.count(2) < 60) {
            x.twice(0);
        }
        checks.due("deliver(NO)", x.deliver(3), 60);
        checks.due("TEAR", x.ofDeal(0, 1), TEAR);
        checks.due("the last one", Everything.message(x, 59), 4041);
        checks.due("lost", x.count(4), 2);
        checks.due("sent by the go-between", x.who(4, 4), 7);
        checks.due("TORN", x.at(0, 0), TORN);
    }

    private static void patience() {
        for (int patience : new int[] {1, 2, 49, 50}) {
            checks.about("PATIENCE of " + patience);
            ClerkVotes x = new ClerkVotes();
            x.set(0, patience);
            x.ticks(3);
            x.open(5);
            loseAll(x);
            x.ticks(patience);
            checks.due("ASKING", x.ofDeal(0, 1), ASKING);
            row(x, "");
            x.ticks(1);
            checks.due("TEAR", x.ofDeal(0, 1), TEAR);
            row(x, "4040 4042");
            x.ticks(100);
            row(x, "4040 4042");
        }
    }

    private static void doubt() {
        for (int doubt : new int[] {1, 2, 49, 50}) {
            checks.about("DOUBT of " + doubt);
            ClerkVotes x = new ClerkVotes();
            x.set(1, doubt);
            x.open(2);
            x.ticks(3);
            x.deliver(0);
            x.fall(4);
            loseAll(x);
            x.ticks(doubt);
            row(x, "");
            x.ticks(1);
            row(x, "6014");
            if (doubt > 1) {
                x.ticks(doubt - 1);
                row(x, "6014");
            }
            x.ticks(1);
            row(x, "6014 6014");
        }
    }

    private static void again() {
        for (int again : new int[] {1, 2, 49, 50}) {
            checks.about("AGAIN of " + again);
            ClerkVotes x = new ClerkVotes();
            x.set(2, again);
            x.open(3);
            x.ticks(3);
            for (int i = 0; i < 4; i++) {
                x.deliver(0);
            }
            x.fall(0);
            x.deliver(1);
            x.deliver(1);
            loseAll(x);
            checks.due("receipts", x.ofDeal(0, 4), 2);
            x.ticks(again);
            row(x, "");
            x.ticks(1);
            row(x, "3040");
            if (again > 1) {
                x.ticks(again - 1);
                row(x, "3040");
            }
            x.ticks(1);
            row(x, "3040 3040");
        }
    }

    private static void elders() {
        for (int elders = 0; elders <= 1; elders++) {
            checks.about("ELDERS of " + elders);
            ClerkVotes x = new ClerkVotes();
            x.set(3, elders);
            x.open(11);
            x.deliver(1);
            x.fall(4);
            loseAll(x);
            x.ticks(5);
            row(x, elders == 0 ? "6014" : "6014 6010 6013");
        }
    }
}
