/** 'Ticks, illness' and promises 8 and 9 at their limits: what is forgotten and what stays, nobody ill and all ill. */
public final class IllnessTest {
    private static final int NOT_POSSIBLE = -5, NONE = -6;
    private static final int NEW = 0, READY = 1, POSTED = 2, TORN = 3;
    private static final int ASKING = 0, POST = 1, TEAR = 2, DONE = 3;
    private static final Checks checks = new Checks();

    public static void main(String[] args) {
        allNewDealsOfAClerk();
        whatAClerkKeeps();
        newForAnIllClerk();
        allAskingDeals();
        whatTheGoBetweenKeeps();
        receiptsHaveToComeAgain();
        postsToAllAgain();
        allIll();
        toAnIllOneItIsLost();
        riseChangesNothingElse();
        onlyClerkIsNotWilling();
        checks.end();
    }

    private static void row(ClerkVotes x, String want) {
        checks.holds("the row is " + want + ", but it is " + Everything.row(x), Everything.row(x).equals(want));
    }

    private static void loseAll(ClerkVotes x) {
        while (x.count(2) > 0) {
            x.lose(0);
        }
    }

    private static void allNewDealsOfAClerk() {
        checks.about("a clerk falls ill: all deals that are NEW become TORN");
        for (int clerk = 0; clerk <= 3; clerk++) {
            ClerkVotes x = new ClerkVotes();
            for (int deal = 0; deal < 8; deal++) {
                x.open(15);
            }
            checks.due("fall(" + clerk + ")", x.fall(clerk), 1);
            for (int deal = 0; deal < 8; deal++) {
                checks.due("TORN", x.ofDeal(deal, 8), 1 << clerk);
                checks.due("NEW", x.ofDeal(deal, 5), 15 & ~(1 << clerk));
                checks.due("ASKING", x.ofDeal(deal, 1), ASKING);
            }
            checks.due("nothing is sent", x.count(2), 32);
            checks.due("nothing is lost", x.count(4), 0);
            checks.due("sent by the clerk", x.who(clerk, 4), 0);
        }
    }

    private static void whatAClerkKeeps() {
        checks.about("a clerk falls ill: READY, POSTED and TORN stay");
        ClerkVotes x = new ClerkVotes();
        x.open(1);
        x.open(1);
        x.willing(0, 0);
        x.open(1);
        x.deliver(2);
        x.lose(2);
        x.willing(0, 1);
        x.deliver(0);
        x.deliver(0);
        x.deliver(0);
        x.deliver(1);
        row(x, "1104 5004");
        x.open(2);
        x.fall(0);
        checks.due("POSTED", x.at(0, 0), POSTED);
        checks.due("READY", x.at(1, 0), READY);
        checks.due("TORN", x.at(2, 0), TORN);
        checks.due("no part", x.at(3, 0), NONE);
        row(x, "1104 5004 0341");
    }

    private static void newForAnIllClerk() {
        checks.about("a deal that is opened is NEW for the ill, too");
        ClerkVotes x = new ClerkVotes();
        x.fall(2);
        x.open(4);
        checks.due("NEW", x.at(0, 2), NEW);
        x.ticks(5);
        checks.due("NEW still", x.at(0, 2), NEW);
        checks.due("rise(2)", x.rise(2), 0);
        checks.due("NEW still", x.at(0, 2), NEW);
        x.twice(0);
        x.deliver(0);
        checks.due("READY", x.at(0, 2), READY);
        x.undo();
        checks.due("fall(2)", x.fall(2), 1);
        checks.due("TORN", x.at(0, 2), TORN);
    }

    private static void allAskingDeals() {
        checks.about("the go-between falls ill: all deals that are ASKING become TEAR");
        ClerkVotes x = new ClerkVotes();
        for (int deal = 0; deal < 8; deal++) {
            x.open(3);
        }
        x.deliver(15);
        x.deliver(15);
        checks.due("a vote has come", x.ofDeal(7, 3), 2);
        checks.due("fall(4)", x.fall(4), 1);
        for (int deal = 0; deal < 8; deal++) {
            checks.due("TEAR", x.ofDeal(deal, 1), TEAR);
            checks.due("for the clerks it is as before", x.ofDeal(deal, 5) | x.ofDeal(deal, 6), 3);
        }
        checks.due("a vote that has come is not forgotten", x.ofDeal(7, 3), 2);
        checks.due("nothing is sent", x.count(2), 15);
        x.rise(4);
        x.ticks(20);
        checks.due("nothing is sent later", x.who(4, 4), 16);
    }

    private static void whatTheGoBetweenKeeps() {
        checks.about("the go-between falls ill: POST, TEAR and DONE stay");
        ClerkVotes x = new ClerkVotes();
        x.open(3);
        for (int i = 0; i < 8; i++) {
            x.deliver(0);
        }
        x.open(3);
        for (int i = 0; i < 6; i++) {
            x.deliver(0);
        }
        x.deliver(1);
        x.willing(3, 0);
        x.open(8);
        x.deliver(x.count(2) - 1);
        x.deliver(x.count(2) - 1);
        int[] minds = {DONE, POST, TEAR};
        int[] receipts = {3, 2, 0};
        row(x, "5104");
        for (int deal = 0; deal < 3; deal++) {
            checks.due("ofDeal(" + deal + ", 1)", x.ofDeal(deal, 1), minds[deal]);
            checks.due("ofDeal(" + deal + ", 4)", x.ofDeal(deal, 4), receipts[deal]);
        }
        x.fall(4);
        int[] keptReceipts = {3, 0, 0};
        for (int deal = 0; deal < 3; deal++) {
            checks.due("ill: ofDeal(" + deal + ", 1)", x.ofDeal(deal, 1), minds[deal]);
            checks.due("ill: ofDeal(" + deal + ", 4)", x.ofDeal(deal, 4), keptReceipts[deal]);
        }
        row(x, "5104");
    }

    private static ClerkVotes postedByBoth() {
        ClerkVotes x = new ClerkVotes();
        x.open(3);
        for (int i = 0; i < 6; i++) {
            x.deliver(0);
        }
        return x;
    }

    private static void receiptsHaveToComeAgain() {
        checks.about("receipts that were forgotten have to come again");
        ClerkVotes x = postedByBoth();
        row(x, "5004 5014");
        x.twice(0);
        x.deliver(0);
        x.fall(4);
        x.rise(4);
        x.deliver(0);
        checks.due("POST, one receipt only", x.ofDeal(0, 1), POST);
        checks.due("receipts", x.ofDeal(0, 4), 2);
        x.deliver(0);
        checks.due("DONE", x.ofDeal(0, 1), DONE);
        checks.due("receipts", x.ofDeal(0, 4), 3);
    }

    private static void postsToAllAgain() {
        checks.about("POSTS goes again to those whose receipt was forgotten");
        ClerkVotes x = postedByBoth();
        x.deliver(0);
        x.lose(0);
        x.ticks(6);
        row(x, "3041");
        x.fall(4);
        x.ticks(5);
        row(x, "3041");
        x.rise(4);
        x.ticks(4);
        row(x, "3041");
        x.ticks(1);
        row(x, "3041 3040 3041");
    }

    private static void allIll() {
        checks.about("all are ill");
        ClerkVotes x = new ClerkVotes();
        x.set(3, 1);
        x.set(1, 1);
        x.set(2, 1);
        x.open(3);
        x.open(12);
        for (int i = 0; i < 6; i++) {
            x.deliver(0);
        }
        int onTheirWay = x.count(2);
        int delivered = x.count(3);
        for (int who = 0; who <= 4; who++) {
            checks.due("fall(" + who + ")", x.fall(who), who + 1);
        }
        for (int who = 0; who <= 4; who++) {
            checks.due("fall(" + who + "), ill", x.fall(who), NOT_POSSIBLE);
        }
        x.ticks(100);
        checks.due("nothing is sent in ticks", x.count(2), onTheirWay);
        for (int i = 1; i <= onTheirWay; i++) {
            checks.due("deliver(0)", x.deliver(0), onTheirWay - i);
        }
        checks.due("all are lost", x.count(4), onTheirWay);
        checks.due("none is delivered", x.count(3), delivered);
    }

    private static void toAnIllOneItIsLost() {
        for (int who = 0; who <= 4; who++) {
            checks.about("delivered to " + who + ", who is ill");
            ClerkVotes x = new ClerkVotes();
            x.open(15);
            for (int i = 0; i < 4; i++) {
                x.twice(i);
            }
            for (int i = 0; i < 4; i++) {
                x.deliver(0);
            }
            x.fall(who);
            String deals = deal(x);
            int got = x.who(who, 3);
            // The row is ASK to clerks 0 to 3, and YES of them to the go-between.
            checks.due("deliver", x.deliver(who), 7);
            checks.due("lost", x.count(4), 1);
            checks.due("delivered to this one", x.who(who, 3), got);
            checks.holds("nothing else happens", deal(x).equals(deals));
            got = x.count(3);
            checks.due("deliver ASK to a clerk who is well", x.deliver(0), 7);
            checks.due("delivered", x.count(3), got + 1);
            checks.due("lost", x.count(4), 1);
        }
    }

    private static String deal(ClerkVotes x) {
        StringBuilder text = new StringBuilder();
        for (int what = 0; what <= 8; what++) {
            text.append(x.ofDeal(0, what)).append(' ');
        }
        return text.toString();
    }

    private static void riseChangesNothingElse() {
        checks.about("rise");
        ClerkVotes x = new ClerkVotes();
        x.open(15);
        x.deliver(1);
        x.fall(1);
        x.fall(2);
        x.fall(4);
        String deals = deal(x);
        String row = Everything.row(x);
        checks.due("rise(4)", x.rise(4), 2);
        checks.due("rise(1)", x.rise(1), 1);
        checks.due("rise(2)", x.rise(2), 0);
        checks.due("rise(2), well", x.rise(2), NOT_POSSIBLE);
        checks.holds("the deal is as it was", deal(x).equals(deals));
        row(x, row);
    }

    private static void onlyClerkIsNotWilling() {
        checks.about("NO of the only clerk: TEARS goes to nobody");
        ClerkVotes x = new ClerkVotes();
        x.willing(3, 0);
        x.open(8);
        x.deliver(0);
        row(x, "2034");
        checks.due("deliver(0)", x.deliver(0), 0);
        checks.due("TEAR", x.ofDeal(0, 1), TEAR);
        checks.due("no vote", x.ofDeal(0, 3), 0);
        checks.due("sent by the go-between", x.who(4, 4), 1);
        loseAll(x);
        checks.due("lost", x.count(4), 0);
    }
}
