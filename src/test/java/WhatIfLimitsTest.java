/** Promises 16 to 20 at their limits. */
public final class WhatIfLimitsTest {
    private static final int NONE = -6;
    private static final Checks checks = new Checks();

    public static void main(String[] args) {
        sure();
        couldAskTheGoBetween();
        couldAskAnElder();
        settledNow();
        settledOnlyWithTheLast();
        settledNeverForAnIllOne();
        settledIn200Rounds();
        roundIsInTheOrderOfTheRow();
        roundIsMadeOfCalls();
        fiftyRounds();
        nothingUnderway();
        sixtyUnderway();
        worstOfOne();
        worstOfSeveralIsTheFirst();
        worstOfSixtyIsTheLast();
        worstIfSettled();
        worstIn200Or201Rounds();
        checks.end();
    }

    private static void sure() {
        checks.about("promise 16, each state of a deal");
        ClerkVotes x = new ClerkVotes();
        x.open(3);
        checks.due("ASKING, NEW for both", x.sure(0), 0);
        x.deliver(0);
        x.deliver(0);
        checks.due("ASKING, READY for both", x.sure(0), 0);
        x.deliver(0);
        checks.due("ASKING, one vote is missing", x.sure(0), 0);
        x.save(0);
        x.deliver(0);
        checks.due("POST, POSTED for nobody", x.sure(0), 1);
        x.fall(4);
        checks.due("POST, the go-between is ill", x.sure(0), 1);
        x.restore(0);
        x.fall(4);
        checks.due("TEAR, TORN for nobody", x.sure(0), 2);
        ClerkVotes y = new ClerkVotes();
        y.open(9);
        y.fall(3);
        checks.due("ASKING, TORN for one", y.sure(0), 2);
        ClerkVotes z = new ClerkVotes();
        z.open(1);
        for (int i = 0; i < 4; i++) {
            checks.holds("not DONE yet", z.ofDeal(0, 1) != 3);
            z.deliver(0);
        }
        checks.due("DONE", z.ofDeal(0, 1), 3);
        checks.due("DONE is sure", z.sure(0), 1);
    }

    private static void couldAskTheGoBetween() {
        checks.about("promise 17, the go-between is asked");
        ClerkVotes x = new ClerkVotes();
        x.open(15);
        for (int i = 0; i < 3; i++) {
            x.deliver(0);
        }
        checks.due("ASKING", x.couldAsk(0), 0);
        x.fall(4);
        checks.due("TEAR, the go-between is ill", x.couldAsk(0), 0);
        x.rise(4);
        checks.due("TEAR, the go-between is well", x.couldAsk(0), 7);
        x.fall(1);
        checks.due("one of them is ill", x.couldAsk(0), 5);
        x.fall(0);
        x.fall(2);
        checks.due("all of them are ill", x.couldAsk(0), 0);
        ClerkVotes y = new ClerkVotes();
        y.open(1);
        y.deliver(0);
        checks.due("ASKING, READY for the only one", y.couldAsk(0), 0);
        y.deliver(0);
        checks.due("POST, READY for the only one", y.couldAsk(0), 1);
        y.deliver(0);
        checks.due("POST, POSTED for the only one", y.couldAsk(0), 0);
        y.deliver(0);
        checks.due("DONE", y.couldAsk(0), 0);
    }

    private static void couldAskAnElder() {
        checks.about("promise 17, an elder is asked");
        // READY for 0, NEW for 1; 2 and 3 take no part.
        ClerkVotes x = new ClerkVotes();
        x.open(3);
        x.deliver(0);
        x.fall(4);
        checks.due("ELDERS 0", x.couldAsk(0), 0);
        x.set(3, 1);
        checks.due("ELDERS 1, NEW for the other one", x.couldAsk(0), 1);
        x.fall(2);
        x.fall(3);
        checks.due("those who take no part do not matter", x.couldAsk(0), 1);
        x.save(0);
        x.deliver(0);
        checks.due("READY for the other one", x.couldAsk(0), 0);
        x.restore(0);
        x.fall(1);
        checks.due("TORN for the other one, who is ill", x.couldAsk(0), 0);
        x.rise(1);
        checks.due("TORN for the other one, who is well", x.couldAsk(0), 1);
        x.fall(0);
        checks.due("the one who would ask is ill", x.couldAsk(0), 0);
        ClerkVotes y = new ClerkVotes();
        y.set(3, 1);
        y.open(1);
        y.deliver(0);
        checks.due("nobody else to ask", y.couldAsk(0), 0);
        ClerkVotes z = new ClerkVotes();
        z.set(3, 1);
        z.open(7);
        for (int i = 0; i < 7; i++) {
            z.deliver(0);
        }
        z.fall(4);
        checks.due("POSTED for one", z.ofDeal(0, 7), 1);
        checks.due("the other two find out", z.couldAsk(0), 6);
        z.fall(0);
        checks.due("the one who knows is ill", z.couldAsk(0), 0);
    }

    private static void settledNow() {
        checks.about("promise 18, 0 rounds");
        ClerkVotes x = new ClerkVotes();
        x.open(15);
        for (int clerk = 0; clerk <= 3; clerk++) {
            checks.holds("not settled with one who is not", x.settledIn(0) > 0);
            x.fall(clerk);
        }
        checks.due("TORN for all", x.settledIn(0), 0);
        ClerkVotes y = new ClerkVotes();
        y.open(15);
        for (int i = 0; i < 11; i++) {
            y.deliver(0);
        }
        checks.due("POSTED for three", y.ofDeal(0, 7), 7);
        checks.due("READY for the last one", y.settledIn(0), 1);
        y.deliver(0);
        checks.due("POSTED for all", y.settledIn(0), 0);
        checks.due("not DONE for the go-between", y.ofDeal(0, 1), 1);
    }

    private static void settledOnlyWithTheLast() {
        checks.about("promise 18, 1 round");
        ClerkVotes x = new ClerkVotes();
        x.willing(0, 0);
        x.open(1);
        checks.due("the only ASK is delivered", x.settledIn(0), 1);
        x.open(8);
        x.set(0, 1);
        x.lose(1);
        x.ticks(1);
        checks.due("patience ends in the tick of round 1, TEARS comes in round 2", x.settledIn(1), 2);
        x.ticks(1);
        checks.due("TEARS comes in round 1", x.settledIn(1), 1);
    }

    private static void settledNeverForAnIllOne() {
        checks.about("promise 18, NONE");
        ClerkVotes x = new ClerkVotes();
        x.fall(3);
        x.open(8);
        checks.due("NEW for an ill one", x.settledIn(0), NONE);
        checks.due("worstLoss(0, 1)", x.worstLoss(0, 1), 201);
        checks.due("worstLoss(0, 0)", x.worstLoss(0, 0), 0);
        x.rise(3);
        checks.due("well again", x.settledIn(0), 3);
    }

    private static void settledIn200Rounds() {
        checks.about("promise 18, 200 and 201 rounds");
        ClerkVotes x = WhatIfTest.crowded();
        x.ticks(2);
        checks.due("201 rounds", x.settledIn(7), NONE);
        x.ticks(1);
        checks.due("200 rounds", x.settledIn(7), 200);
        x.ticks(1);
        checks.due("199 rounds", x.settledIn(7), 199);
    }

    private static void roundIsInTheOrderOfTheRow() {
        checks.about("promises 18 and 19, the order of the row");
        // TEAR, and NEW for clerk 0: ASK and then TEARS make a YES and a TEARS; TEARS and then ASK make a NO.
        ClerkVotes x = new ClerkVotes();
        x.set(0, 1);
        x.open(1);
        x.ticks(2);
        checks.holds("ASK and TEARS are on their way", Everything.row(x).equals("0040 4040"));
        checks.due("underwayIn(1), YES", x.underwayIn(1), 1);
        checks.due("underwayIn(2), TEARS", x.underwayIn(2), 1);
        checks.due("underwayIn(3)", x.underwayIn(3), 0);
        x.twice(0);
        x.lose(0);
        checks.holds("TEARS and ASK are on their way", Everything.row(x).equals("4040 0040"));
        checks.due("underwayIn(1), NO", x.underwayIn(1), 1);
        checks.due("underwayIn(2)", x.underwayIn(2), 0);
    }

    private static void passRound(ClerkVotes x) {
        int messages = x.count(2);
        for (int i = 0; i < messages; i++) {
            x.deliver(0);
        }
        x.ticks(1);
    }

    private static void roundIsMadeOfCalls() {
        checks.about("promise 19, rounds made of calls");
        ClerkVotes x = WhatIfTest.crowded();
        x.rise(4);
        int[] want = new int[6];
        for (int rounds = 1; rounds <= 5; rounds++) {
            want[rounds] = x.underwayIn(rounds);
        }
        for (int rounds = 1; rounds <= 5; rounds++) {
            passRound(x);
            checks.due("after " + rounds, x.count(2), want[rounds]);
        }
    }

    private static void fiftyRounds() {
        checks.about("promise 19, 50 rounds");
        // The question is on its way in every third round, so it is seen whether one round too many or too few passes.
        for (int offset = 0; offset < 3; offset++) {
            ClerkVotes x = new ClerkVotes();
            x.set(1, 3);
            x.open(1);
            x.deliver(0);
            x.lose(0);
            x.fall(4);
            if (offset > 0) {
                x.ticks(offset);
            }
            int first = x.underwayIn(1);
            int last = x.underwayIn(50);
            for (int rounds = 1; rounds <= 50; rounds++) {
                passRound(x);
                checks.due("after " + rounds, x.count(2), (offset + rounds) % 3 == 1 && offset + rounds > 1 ? 1 : 0);
                if (rounds == 1) {
                    checks.due("underwayIn(1)", first, x.count(2));
                }
            }
            checks.due("underwayIn(50)", last, x.count(2));
        }
    }

    private static void nothingUnderway() {
        checks.about("promise 19, nothing is on its way");
        ClerkVotes x = new ClerkVotes();
        checks.due("underwayIn(1), no deal", x.underwayIn(1), 0);
        checks.due("underwayIn(50), no deal", x.underwayIn(50), 0);
        x.open(3);
        x.lose(0);
        x.lose(0);
        checks.due("underwayIn(6), patience", x.underwayIn(6), 0);
        checks.due("underwayIn(7), TEARS", x.underwayIn(7), 2);
        checks.due("underwayIn(8)", x.underwayIn(8), 0);
    }

    private static void sixtyUnderway() {
        checks.about("promise 19, 60 are on their way");
        ClerkVotes x = new ClerkVotes();
        x.set(1, 1);
        x.set(3, 1);
        for (int deal = 0; deal < 4; deal++) {
            x.open(15);
        }
        for (int i = 0; i < 16; i++) {
            x.deliver(0);
        }
        x.fall(4);
        x.ticks(1);
        // 64 questions a tick, of which 60 have room.
        for (int rounds = 1; rounds <= 50; rounds++) {
            checks.due("underwayIn(" + rounds + ")", x.underwayIn(rounds), 60);
        }
        checks.due("nothing has changed", x.count(4), 0);
    }

    private static void worstOfOne() {
        checks.about("promise 20, one message");
        ClerkVotes x = new ClerkVotes();
        x.open(1);
        checks.due("worstLoss(0, 0)", x.worstLoss(0, 0), 0);
        checks.due("worstLoss(0, 1)", x.worstLoss(0, 1), 8);
        x.lose(0);
        checks.due("none: worstLoss(0, 0)", x.worstLoss(0, 0), NONE);
        checks.due("none: worstLoss(0, 1)", x.worstLoss(0, 1), NONE);
    }

    private static void worstOfSeveralIsTheFirst() {
        checks.about("promise 20, of several the first one");
        // Deal 0 does not need its ASKs that come twice; deal 1 needs those at the places 2 and 3.
        ClerkVotes x = new ClerkVotes();
        x.open(1);
        x.twice(0);
        x.open(12);
        checks.due("worstLoss(1, 0)", x.worstLoss(1, 0), 2);
        checks.due("worstLoss(1, 1)", x.worstLoss(1, 1), 8);
        checks.due("worstLoss(0, 0), all are the same", x.worstLoss(0, 0), 0);
        checks.due("worstLoss(0, 1), all are the same", x.worstLoss(0, 1), 3);
        x.twice(2);
        checks.due("worstLoss(1, 0), the other one", x.worstLoss(1, 0), 3);
        x.twice(3);
        checks.due("worstLoss(1, 0), none matters any more", x.worstLoss(1, 0), 0);
        checks.due("worstLoss(1, 1), none matters any more", x.worstLoss(1, 1), 3);
    }

    private static void worstOfSixtyIsTheLast() {
        checks.about("promise 20, 60 messages");
        ClerkVotes x = new ClerkVotes();
        x.open(1);
        while (x.count(2) < 59) {
            x.twice(0);
        }
        x.open(2);
        checks.due("count(2)", x.count(2), 60);
        checks.due("worstLoss(1, 0)", x.worstLoss(1, 0), 59);
        checks.due("worstLoss(1, 1)", x.worstLoss(1, 1), 8);
        checks.due("nothing has changed", x.count(2), 60);
    }

    private static void worstIfSettled() {
        checks.about("promise 20, settled");
        ClerkVotes x = new ClerkVotes();
        x.open(1);
        x.fall(0);
        checks.due("worstLoss(0, 0)", x.worstLoss(0, 0), 0);
        checks.due("worstLoss(0, 1)", x.worstLoss(0, 1), 0);
    }

    private static void worstIn200Or201Rounds() {
        checks.about("promise 20, 200 and 201 rounds");
        // As in the crowd, but for deal 7 both clerks are READY, and only a TEARS, the last in the row, makes an elder know.
        ClerkVotes x = new ClerkVotes();
        x.set(1, 50);
        x.set(3, 1);
        int[] deals = {15, 15, 15, 7, 12, 12, 12, 12};
        for (int clerks : deals) {
            x.open(clerks);
        }
        for (int i = 0; i < 15; i++) {
            x.deliver(0);
        }
        x.willing(2, 0);
        for (int i = 0; i < 6; i++) {
            x.deliver(0);
        }
        x.willing(2, 1);
        x.deliver(0);
        x.deliver(0);
        x.fall(4);
        x.rise(4);
        int last = x.count(2) - 1;
        checks.due("YES of clerk 2", Everything.message(x, last - 1), 1724);
        x.deliver(last - 1);
        checks.due("TEARS to clerk 2", Everything.message(x, last), 4742);
        x.fall(4);
        x.ticks(3);
        checks.due("settledIn(7)", x.settledIn(7), 200);
        checks.due("worstLoss(7, 0)", x.worstLoss(7, 0), last);
        checks.due("worstLoss(7, 1)", x.worstLoss(7, 1), 201);
        x.twice(last);
        checks.due("worstLoss(7, 0), TEARS comes twice", x.worstLoss(7, 0), 0);
        checks.due("worstLoss(7, 1), TEARS comes twice", x.worstLoss(7, 1), 200);
    }
}
