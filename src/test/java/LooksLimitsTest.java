/** Promises 11 to 15 at their limits: what is empty, what is full, and what does not count. */
public final class LooksLimitsTest {
    private static final int NO_SUCH = -1, NONE = -6;
    private static final Checks checks = new Checks();

    public static void main(String[] args) {
        votesWhileAsking();
        receiptsAndWhatIsForgotten();
        sameVoteAndReceiptOnceMore();
        standingsAreApart();
        noPart();
        noPartBetweenOtherDeals();
        messagesAtBothEnds();
        messagesToEach();
        deliveredToEach();
        sentByEach();
        countsOfNothing();
        countsOfAll();
        postedAndTornDeals();
        theGoBetweenDoesNotCount();
        checks.end();
    }

    private static void votesWhileAsking() {
        checks.about("promise 11, votes that came while it was ASKING");
        ClerkVotes x = new ClerkVotes();
        x.willing(2, 0);
        x.open(15);
        for (int i = 0; i < 4; i++) {
            x.deliver(0);
        }
        checks.due("none has come", x.ofDeal(0, 3), 0);
        x.deliver(0);
        checks.due("that of clerk 0", x.ofDeal(0, 3), 1);
        x.deliver(1);
        checks.due("TEAR", x.ofDeal(0, 1), 2);
        checks.due("a NO is none of them, and that of clerk 0 stays", x.ofDeal(0, 3), 1);
        x.deliver(0);
        x.deliver(0);
        checks.due("those that come when it is TEAR do not count", x.ofDeal(0, 3), 1);
        ClerkVotes y = new ClerkVotes();
        y.open(15);
        for (int i = 0; i < 8; i++) {
            y.deliver(0);
        }
        checks.due("all have come", y.ofDeal(0, 3), 15);
        checks.due("POST", y.ofDeal(0, 1), 1);
    }

    private static void receiptsAndWhatIsForgotten() {
        checks.about("promise 11, receipts that have come and were not forgotten");
        ClerkVotes x = new ClerkVotes();
        x.open(15);
        for (int i = 0; i < 12; i++) {
            x.deliver(0);
        }
        int[] receipts = {0, 1, 3, 7, 15};
        for (int i = 0; i < 4; i++) {
            checks.due("receipts", x.ofDeal(0, 4), receipts[i]);
            checks.due("POST", x.ofDeal(0, 1), 1);
            x.fall(4);
            checks.due("forgotten", x.ofDeal(0, 4), 0);
            checks.due("POST still", x.ofDeal(0, 1), 1);
            x.undo();
            x.deliver(0);
        }
        checks.due("all have come", x.ofDeal(0, 4), 15);
        checks.due("DONE", x.ofDeal(0, 1), 3);
        x.fall(4);
        checks.due("not forgotten when it is DONE", x.ofDeal(0, 4), 15);
    }

    private static void sameVoteAndReceiptOnceMore() {
        checks.about("promise 11, votes and receipts that come twice");
        ClerkVotes x = new ClerkVotes();
        x.open(6);
        x.deliver(0);
        x.twice(1);
        x.twice(1);
        x.deliver(1);
        x.deliver(1);
        x.deliver(1);
        checks.due("one vote", x.ofDeal(0, 3), 2);
        checks.due("ASKING", x.ofDeal(0, 1), 0);
        x.deliver(0);
        x.deliver(0);
        checks.due("POST", x.ofDeal(0, 1), 1);
        x.deliver(0);
        x.twice(1);
        x.twice(1);
        x.deliver(1);
        x.deliver(1);
        x.deliver(1);
        checks.due("one receipt", x.ofDeal(0, 4), 2);
        checks.due("POST", x.ofDeal(0, 1), 1);
    }

    private static void standingsAreApart() {
        checks.about("promise 11, NEW, READY, POSTED and TORN as sets");
        ClerkVotes x = new ClerkVotes();
        x.willing(0, 0);
        for (int deal = 0; deal < 8; deal++) {
            x.open(15);
        }
        // Of each deal, as many clerks as its number says (at most four) get ASK.
        for (int deal = 7; deal >= 0; deal--) {
            for (int clerk = Math.min(deal, 4) - 1; clerk >= 0; clerk--) {
                x.deliver(4 * deal + clerk);
            }
        }
        int[] fresh = {15, 14, 12, 8, 0, 0, 0, 0};
        int[] ready = {0, 0, 2, 6, 14, 14, 14, 14};
        for (int deal = 0; deal < 8; deal++) {
            checks.due("NEW of " + deal, x.ofDeal(deal, 5), fresh[deal]);
            checks.due("READY of " + deal, x.ofDeal(deal, 6), ready[deal]);
            checks.due("POSTED of " + deal, x.ofDeal(deal, 7), 0);
            checks.due("TORN of " + deal, x.ofDeal(deal, 8), deal == 0 ? 0 : 1);
            for (int clerk = 0; clerk <= 3; clerk++) {
                int want = (fresh[deal] >> clerk & 1) == 1 ? 0 : (ready[deal] >> clerk & 1) == 1 ? 1 : 3;
                checks.due("at(" + deal + ", " + clerk + ")", x.at(deal, clerk), want);
            }
        }
    }

    private static void noPart() {
        checks.about("promise 12, takes no part");
        for (int clerks = 1; clerks <= 14; clerks++) {
            ClerkVotes x = new ClerkVotes();
            x.open(clerks);
            while (x.count(2) > 0) {
                x.deliver(0);
            }
            for (int clerk = 0; clerk <= 3; clerk++) {
                checks.due("at(0, " + clerk + ") of " + clerks, x.at(0, clerk), (clerks >> clerk & 1) == 1 ? 2 : NONE);
            }
            checks.due("at(0, 4)", x.at(0, 4), NO_SUCH);
        }
    }

    private static void noPartBetweenOtherDeals() {
        checks.about("promise 12, takes no part, and what the deals ahead and behind are does not matter");
        // By turns a deal of all clerks and one of clerk 3 alone, so that clerks 0 to 2 take no part in every second deal.
        for (int first = 0; first <= 1; first++) {
            ClerkVotes x = new ClerkVotes();
            for (int deal = 0; deal < 8; deal++) {
                x.open(deal % 2 == first ? 15 : 8);
            }
            dueNoPart(x, first, "NEW", 0);
            for (int i = 0; i < 20; i++) {
                x.deliver(0);
            }
            dueNoPart(x, first, "READY", 1);
            while (x.count(2) > 0) {
                x.deliver(0);
            }
            dueNoPart(x, first, "POSTED", 2);
            ClerkVotes y = new ClerkVotes();
            for (int deal = 0; deal < 8; deal++) {
                y.open(deal % 2 == first ? 15 : 8);
            }
            for (int clerk = 0; clerk <= 3; clerk++) {
                y.fall(clerk);
            }
            dueNoPart(y, first, "TORN", 3);
        }
    }

    private static void dueNoPart(ClerkVotes x, int first, String others, int standing) {
        for (int deal = 0; deal < 8; deal++) {
            for (int clerk = 0; clerk <= 3; clerk++) {
                int want = deal % 2 == first || clerk == 3 ? standing : NONE;
                checks.due("at(" + deal + ", " + clerk + "), others " + others, x.at(deal, clerk), want);
            }
        }
    }

    private static void messagesAtBothEnds() {
        checks.about("promise 13, the first and the last place");
        ClerkVotes x = new ClerkVotes();
        checks.due("no message: message(0, 0)", x.message(0, 0), NO_SUCH);
        x.open(8);
        checks.due("one message: message(0, 3)", x.message(0, 3), 3);
        checks.due("one message: message(1, 3)", x.message(1, 3), NO_SUCH);
        x.open(1);
        while (x.count(2) < 60) {
            x.twice(1);
        }
        checks.due("60 messages: message(0, 3)", x.message(0, 3), 3);
        checks.due("60 messages: message(59, 1)", x.message(59, 1), 1);
        checks.due("60 messages: message(60, 1)", x.message(60, 1), NO_SUCH);
        x.lose(0);
        checks.due("59 messages: message(0, 3)", x.message(0, 3), 0);
        checks.due("59 messages: message(59, 1)", x.message(59, 1), NO_SUCH);
    }

    private static void messagesToEach() {
        checks.about("promise 14, messages on their way");
        ClerkVotes x = new ClerkVotes();
        x.open(8);
        while (x.count(2) < 60) {
            x.twice(0);
        }
        for (int who = 0; who <= 4; who++) {
            checks.due("who(" + who + ", 2)", x.who(who, 2), who == 3 ? 60 : 0);
        }
        for (int i = 1; i <= 60; i++) {
            x.deliver(0);
            checks.due("who(3, 2)", x.who(3, 2), 60 - i);
            checks.due("who(4, 2)", x.who(4, 2), i);
        }
    }

    private static void deliveredToEach() {
        checks.about("promise 14, messages that were delivered, and not lost");
        ClerkVotes x = new ClerkVotes();
        x.open(3);
        x.twice(0);
        x.twice(0);
        x.deliver(0);
        x.lose(1);
        x.fall(0);
        x.deliver(1);
        checks.due("delivered to clerk 0", x.who(0, 3), 1);
        checks.due("delivered to clerk 1", x.who(1, 3), 0);
        checks.due("delivered", x.count(3), 1);
        checks.due("lost by lose(), and to an ill one", x.count(4), 2);
        checks.due("on their way", x.count(2), 2);
    }

    private static void sentByEach() {
        checks.about("promise 14, messages that were sent");
        ClerkVotes x = new ClerkVotes();
        x.open(1);
        while (x.count(2) < 60) {
            x.twice(0);
        }
        checks.due("not those of twice()", x.who(4, 4), 1);
        x.open(15);
        checks.due("also those that were lost at once", x.who(4, 4), 5);
        checks.due("lost", x.count(4), 4);
        x.deliver(0);
        checks.due("sent by clerk 0", x.who(0, 4), 1);
        x.lose(0);
        x.lose(58);
        checks.due("also one that was lost by lose()", x.who(0, 4), 1);
        checks.due("sent by the go-between", x.who(4, 4), 5);
    }

    private static void countsOfNothing() {
        checks.about("promise 15, nothing there");
        ClerkVotes x = new ClerkVotes();
        for (int what : new int[] {0, 1, 2, 3, 4, 5, 6, 11, 12, 13}) {
            checks.due("count(" + what + ")", x.count(what), 0);
        }
    }

    private static void countsOfAll() {
        checks.about("promise 15, full");
        ClerkVotes x = new ClerkVotes();
        for (int deal = 0; deal < 8; deal++) {
            x.open(15);
        }
        while (x.count(2) < 60) {
            x.twice(0);
        }
        for (int i = 0; i < 60; i++) {
            x.put('o');
        }
        checks.due("deals", x.count(1), 8);
        checks.due("messages", x.count(2), 60);
        checks.due("the pad", x.count(5), 60);
        checks.due("changes", x.count(6), 6);
    }

    private static void postedAndTornDeals() {
        checks.about("promise 15, deals that are POSTED or TORN");
        ClerkVotes x = new ClerkVotes();
        for (int deal = 0; deal < 8; deal++) {
            x.open(3);
            for (int i = 0; i < 5; i++) {
                x.deliver(0);
            }
            checks.due("POSTED for one, READY for the other", x.count(11), deal + 1);
            x.deliver(0);
            checks.due("POSTED for both", x.count(11), deal + 1);
            while (x.count(2) > 0) {
                x.deliver(0);
            }
            checks.due("TORN", x.count(12), 0);
            checks.due("both", x.count(13), 0);
        }
        ClerkVotes y = new ClerkVotes();
        y.willing(1, 0);
        for (int deal = 0; deal < 8; deal++) {
            y.open(deal % 2 == 0 ? 2 : 3);
            y.deliver(y.count(2) - 1);
            checks.due("TORN for one, and NEW for the other or for nobody", y.count(12), deal + 1);
            while (y.count(2) > 0) {
                y.deliver(0);
            }
            checks.due("TORN for all", y.count(12), deal + 1);
            checks.due("POSTED", y.count(11), 0);
            checks.due("both", y.count(13), 0);
        }
        ClerkVotes z = new ClerkVotes();
        z.open(1);
        for (int i = 0; i < 3; i++) {
            z.deliver(0);
        }
        z.open(1);
        z.fall(0);
        checks.due("one is POSTED", z.count(11), 1);
        checks.due("another one is TORN", z.count(12), 1);
        checks.due("none is both", z.count(13), 0);
    }

    private static void theGoBetweenDoesNotCount() {
        checks.about("promise 15, what a deal is for the go-between does not count");
        ClerkVotes x = new ClerkVotes();
        x.open(3);
        x.fall(4);
        checks.due("TEAR", x.ofDeal(0, 1), 2);
        checks.due("count(12)", x.count(12), 0);
        ClerkVotes y = new ClerkVotes();
        y.open(1);
        y.deliver(0);
        y.deliver(0);
        checks.due("POST", y.ofDeal(0, 1), 1);
        checks.due("count(11)", y.count(11), 0);
    }
}
