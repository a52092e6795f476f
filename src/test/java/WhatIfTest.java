/** Promises 16 to 20: what if. */
public final class WhatIfTest {
    private static final int LOW = Integer.MIN_VALUE, HIGH = Integer.MAX_VALUE;
    private static final Checks checks = new Checks();

    public static void main(String[] args) {
        sure();
        couldAsk();
        couldAskElders();
        settledIn();
        settledInNever();
        settledLate();
        settledAtTheLimit();
        underwayIn();
        worstLoss();
        worstLossNever();
        nothingChanges();
        checks.end();
    }

    private static void sure() {
        checks.about("promise 16");
        ClerkVotes x = new ClerkVotes();
        checks.due("sure(0), no deal", x.sure(0), -1);
        x.open(3);
        checks.due("sure(-1)", x.sure(-1), -1);
        checks.due("sure(1)", x.sure(1), -1);
        checks.due("sure(HIGH)", x.sure(HIGH), -1);
        checks.due("ASKING", x.sure(0), 0);
        x.deliver(0);
        x.deliver(0);
        x.deliver(0);
        checks.due("ASKING, all READY", x.sure(0), 0);
        x.deliver(0);
        checks.due("POST", x.sure(0), 1);
        for (int i = 0; i < 4; i++) {
            x.deliver(0);
        }
        checks.due("DONE for the go-between", x.ofDeal(0, 1), 3);
        checks.due("DONE", x.sure(0), 1);
        x.willing(2, 0);
        x.open(6);
        x.deliver(0);
        checks.due("ASKING, one READY", x.sure(1), 0);
        x.deliver(0);
        checks.due("ASKING, one TORN", x.sure(1), 2);
        x.open(1);
        x.fall(4);
        checks.due("TEAR, NEW for all", x.sure(2), 2);
        checks.due("DONE, the go-between ill", x.sure(0), 1);
    }

    private static void couldAsk() {
        checks.about("promise 17");
        ClerkVotes x = new ClerkVotes();
        checks.due("couldAsk(0), no deal", x.couldAsk(0), -1);
        x.open(7);
        checks.due("couldAsk(1)", x.couldAsk(1), -1);
        checks.due("couldAsk(-1)", x.couldAsk(-1), -1);
        checks.due("couldAsk(LOW)", x.couldAsk(LOW), -1);
        checks.due("ASKING, NEW", x.couldAsk(0), 0);
        x.deliver(0);
        x.deliver(0);
        checks.due("ASKING, two READY", x.couldAsk(0), 0);
        x.deliver(0);
        x.deliver(0);
        x.deliver(0);
        checks.due("ASKING, all READY", x.couldAsk(0), 0);
        x.deliver(0);
        checks.due("POST, all READY", x.couldAsk(0), 7);
        x.deliver(0);
        checks.due("POST, one POSTED", x.couldAsk(0), 6);
        x.fall(1);
        checks.due("an ill one cannot", x.couldAsk(0), 4);
        x.fall(4);
        checks.due("the go-between ill", x.couldAsk(0), 0);
    }

    private static void couldAskElders() {
        checks.about("promise 17, elders");
        ClerkVotes x = new ClerkVotes();
        x.set(3, 1);
        x.open(7);
        x.deliver(0);
        checks.due("ASKING, others NEW", x.couldAsk(0), 1);
        x.set(3, 0);
        checks.due("no elders", x.couldAsk(0), 0);
        x.set(3, 1);
        x.deliver(0);
        checks.due("two READY, one NEW", x.couldAsk(0), 3);
        x.fall(2);
        checks.due("the third one ill", x.couldAsk(0), 0);
        x.rise(2);
        checks.due("the third one well, TORN", x.couldAsk(0), 3);
        x.fall(0);
        checks.due("one of them ill", x.couldAsk(0), 2);
        // A well clerk who takes no part does not help.
        ClerkVotes y = new ClerkVotes();
        y.set(3, 1);
        y.open(3);
        y.deliver(0);
        y.deliver(0);
        checks.due("all READY", y.couldAsk(0), 0);
        y.fall(4);
        y.rise(4);
        checks.due("TEAR, all READY", y.couldAsk(0), 3);
    }

    private static void settledIn() {
        checks.about("promise 18");
        ClerkVotes x = new ClerkVotes();
        checks.due("settledIn(0), no deal", x.settledIn(0), -1);
        x.open(15);
        checks.due("settledIn(1)", x.settledIn(1), -1);
        checks.due("settledIn(-1)", x.settledIn(-1), -1);
        checks.due("settledIn(HIGH)", x.settledIn(HIGH), -1);
        checks.due("ASK, YES, POSTS", x.settledIn(0), 3);
        for (int i = 0; i < 4; i++) {
            x.deliver(0);
        }
        checks.due("YES, POSTS", x.settledIn(0), 2);
        for (int i = 0; i < 4; i++) {
            x.deliver(0);
        }
        checks.due("POSTS", x.settledIn(0), 1);
        for (int i = 0; i < 3; i++) {
            x.deliver(0);
        }
        checks.due("POSTS to the last one", x.settledIn(0), 1);
        x.deliver(0);
        checks.due("settled", x.settledIn(0), 0);
        // One is not willing: ASK, NO, TEARS.
        ClerkVotes y = new ClerkVotes();
        y.willing(1, 0);
        y.open(3);
        checks.due("ASK, NO, TEARS", y.settledIn(0), 3);
        y.open(2);
        checks.due("the only one is not willing", y.settledIn(1), 1);
        // All ASKs are lost: patience ends in the tick of round 7, and TEARS comes in round 8.
        ClerkVotes z = new ClerkVotes();
        z.open(3);
        z.lose(0);
        z.lose(0);
        checks.due("patience", z.settledIn(0), 8);
        z.ticks(7);
        checks.due("patience has ended", z.settledIn(0), 1);
    }

    private static void settledInNever() {
        checks.about("promise 18, NONE");
        ClerkVotes x = new ClerkVotes();
        x.open(3);
        x.deliver(0);
        x.deliver(0);
        x.fall(1);
        checks.due("READY for an ill one", x.settledIn(0), -6);
        x.rise(1);
        checks.due("well again", x.settledIn(0), 2);
        x.fall(4);
        checks.due("the go-between is ill", x.settledIn(0), -6);
        x.set(3, 1);
        checks.due("all are READY, elders do not help", x.settledIn(0), -6);
    }

    private static void settledLate() {
        checks.about("promise 18, late");
        ClerkVotes x = new ClerkVotes();
        x.set(0, 50);
        x.open(1);
        x.lose(0);
        checks.due("patience of 50", x.settledIn(0), 52);
        ClerkVotes y = new ClerkVotes();
        y.set(1, 50);
        y.set(2, 49);
        y.open(1);
        y.deliver(0);
        y.deliver(0);
        y.lose(0);
        checks.due("POSTS again after 49", y.settledIn(0), 51);
        y.set(2, 50);
        y.fall(4);
        checks.due("nobody tells", y.settledIn(0), -6);
    }

    /**
     * Every 50 ticks, deals 0 to 3 fill the row with questions that nobody can answer, but for three places; so in each
     * such tick just one of the deals 4 to 7 gets its question to the elder who knows. Deal 7 asks in tick 200.
     */
    static ClerkVotes crowded() {
        ClerkVotes x = new ClerkVotes();
        x.set(1, 50);
        x.set(3, 1);
        int[] deals = {15, 15, 15, 7, 12, 12, 12, 12};
        for (int clerks : deals) {
            x.open(clerks);
        }
        for (int i = 0; i < 15; i++) {
            x.deliver(0);
        }
        x.willing(2, 0);
        for (int i = 0; i < 8; i++) {
            x.deliver(0);
        }
        x.fall(4);
        return x;
    }

    private static void settledAtTheLimit() {
        checks.about("promises 18 and 20, 200 rounds");
        ClerkVotes x = crowded();
        checks.due("settledIn(4)", x.settledIn(4), 53);
        checks.due("settledIn(5)", x.settledIn(5), 103);
        checks.due("settledIn(6)", x.settledIn(6), 153);
        checks.due("settledIn(7), 203 rounds", x.settledIn(7), -6);
        checks.due("worstLoss(7, 1)", x.worstLoss(7, 1), 201);
        x.ticks(2);
        checks.due("settledIn(7), 201 rounds", x.settledIn(7), -6);
        checks.due("worstLoss(7, 1)", x.worstLoss(7, 1), 201);
        x.ticks(1);
        checks.due("settledIn(7), 200 rounds", x.settledIn(7), 200);
        checks.due("worstLoss(7, 1)", x.worstLoss(7, 1), 200);
        checks.due("worstLoss(7, 0)", x.worstLoss(7, 0), 0);
        while (x.count(2) > 0) {
            x.lose(0);
        }
        x.ticks(50);
        checks.due("messages", x.count(2), 60);
        checks.due("settledIn(7), 150 rounds", x.settledIn(7), 150);
        checks.due("worstLoss(7, 1), one question is lost", x.worstLoss(7, 1), 200);
        int place = x.worstLoss(7, 0);
        checks.holds("it is the one of deal 4 to the elder", Everything.message(x, place) == 6432);
    }

    private static void underwayIn() {
        checks.about("promise 19");
        ClerkVotes x = new ClerkVotes();
        checks.due("underwayIn(0)", x.underwayIn(0), -2);
        checks.due("underwayIn(51)", x.underwayIn(51), -2);
        checks.due("underwayIn(-1)", x.underwayIn(-1), -2);
        checks.due("underwayIn(LOW)", x.underwayIn(LOW), -2);
        checks.due("underwayIn(HIGH)", x.underwayIn(HIGH), -2);
        checks.due("underwayIn(1), nothing there", x.underwayIn(1), 0);
        x.open(7);
        int[] want = {0, 3, 3, 3, 0, 0};
        for (int rounds = 1; rounds <= 5; rounds++) {
            checks.due("underwayIn(" + rounds + ")", x.underwayIn(rounds), want[rounds]);
        }
        checks.due("underwayIn(50)", x.underwayIn(50), 0);
        // A tick belongs to a round: READY and the go-between ill, WHAT is sent every second tick.
        ClerkVotes y = new ClerkVotes();
        y.set(1, 2);
        y.open(8);
        y.deliver(0);
        y.fall(4);
        int[] questions = {0, 0, 0, 1, 0, 1};
        for (int rounds = 1; rounds <= 5; rounds++) {
            checks.due("underwayIn(" + rounds + ")", y.underwayIn(rounds), questions[rounds]);
        }
        // In a round at 60, what leaves the row makes room for what is sent: nothing is lost but what has no room.
        ClerkVotes z = new ClerkVotes();
        z.open(1);
        for (int i = 1; i < 60; i++) {
            z.twice(0);
        }
        checks.due("underwayIn(1)", z.underwayIn(1), 60);
        checks.due("underwayIn(2)", z.underwayIn(2), 60);
        checks.due("underwayIn(3)", z.underwayIn(3), 60);
        checks.due("underwayIn(4)", z.underwayIn(4), 0);
    }

    private static void worstLoss() {
        checks.about("promise 20");
        ClerkVotes x = new ClerkVotes();
        checks.due("worstLoss(0, 0), no deal", x.worstLoss(0, 0), -1);
        checks.due("worstLoss(0, 2), no deal", x.worstLoss(0, 2), -1);
        x.open(3);
        checks.due("worstLoss(0, 2)", x.worstLoss(0, 2), -2);
        checks.due("worstLoss(0, -1)", x.worstLoss(0, -1), -2);
        checks.due("worstLoss(0, HIGH)", x.worstLoss(0, HIGH), -2);
        checks.due("worstLoss(1, 0)", x.worstLoss(1, 0), -1);
        checks.due("worstLoss(-1, 0)", x.worstLoss(-1, 0), -1);
        // Both are as bad: the first one.
        checks.due("worstLoss(0, 0)", x.worstLoss(0, 0), 0);
        checks.due("worstLoss(0, 1)", x.worstLoss(0, 1), 8);
        // An ASK that is there twice does not matter; the other one does.
        x.twice(0);
        checks.due("worstLoss(0, 0)", x.worstLoss(0, 0), 1);
        checks.due("worstLoss(0, 1)", x.worstLoss(0, 1), 8);
        // A message of another deal does not matter.
        x.open(4);
        checks.due("worstLoss(1, 0)", x.worstLoss(1, 0), 3);
        checks.due("worstLoss(1, 1)", x.worstLoss(1, 1), 8);
        x.lose(0);
        x.lose(0);
        x.lose(0);
        checks.due("worstLoss(0, 0), patience ends anyway", x.worstLoss(0, 0), 0);
        checks.due("worstLoss(0, 1), patience ends anyway", x.worstLoss(0, 1), 8);
        x.lose(0);
        checks.due("worstLoss(0, 0), no message", x.worstLoss(0, 0), -6);
        checks.due("worstLoss(0, 1), no message", x.worstLoss(0, 1), -6);
        checks.due("worstLoss(0, 2), no message", x.worstLoss(0, 2), -2);
        // Settled: no loss makes it later.
        ClerkVotes y = new ClerkVotes();
        y.open(1);
        y.deliver(0);
        y.deliver(0);
        y.deliver(0);
        y.open(2);
        checks.due("worstLoss(0, 0), settled", y.worstLoss(0, 0), 0);
        checks.due("worstLoss(0, 1), settled", y.worstLoss(0, 1), 0);
    }

    private static void worstLossNever() {
        checks.about("promise 20, 201");
        // The go-between fell ill behind its POSTS; without them the clerks stay READY.
        ClerkVotes x = new ClerkVotes();
        x.open(3);
        for (int i = 0; i < 4; i++) {
            x.deliver(0);
        }
        x.fall(4);
        x.twice(0);
        checks.due("settledIn(0)", x.settledIn(0), 1);
        checks.due("worstLoss(0, 0)", x.worstLoss(0, 0), 1);
        checks.due("worstLoss(0, 1)", x.worstLoss(0, 1), 201);
        x.lose(2);
        checks.due("worstLoss(0, 0), of two the first one", x.worstLoss(0, 0), 0);
        checks.due("worstLoss(0, 1)", x.worstLoss(0, 1), 201);
    }

    private static void nothingChanges() {
        checks.about("what if");
        ClerkVotes x = new ClerkVotes();
        x.set(3, 1);
        x.open(7);
        x.open(12);
        x.deliver(1);
        x.deliver(3);
        x.ticks(5);
        x.fall(2);
        x.save(0);
        String before = Everything.of(x);
        for (int i = -1; i <= 2; i++) {
            x.sure(i);
            x.couldAsk(i);
            x.settledIn(i);
            x.worstLoss(i, 0);
            x.worstLoss(i, 1);
        }
        x.underwayIn(50);
        checks.holds("nothing changes", Everything.of(x).equals(before));
        String all = Everything.withoutPadAndHistory(x);
        x.ticks(1);
        x.undo();
        checks.holds("nothing is different in the history", Everything.withoutPadAndHistory(x).equals(all));
        x.ticks(1);
        x.restore(0);
        checks.holds("nothing is different in the slot", Everything.withoutPadAndHistory(x).equals(all));
    }
}
