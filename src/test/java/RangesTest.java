/** Promises 2 to 20, 26 and 27: each argument's range, the last value that is allowed and the first one that is not. */
public final class RangesTest {
    private static final int NO_SUCH = -1, BAD_VALUE = -2, NONE = -6;
    private static final Checks checks = new Checks();

    public static void main(String[] args) {
        set();
        willing();
        open();
        places();
        people();
        ticks();
        ofDeal();
        at();
        message();
        who();
        count();
        dealsInQuestions();
        rounds();
        worstLoss();
        slots();
        checks.end();
    }

    private static ClerkVotes withDeals(int deals) {
        ClerkVotes x = new ClerkVotes();
        for (int deal = 0; deal < deals; deal++) {
            x.open(1);
        }
        return x;
    }

    private static ClerkVotes withMessages(int messages) {
        ClerkVotes x = withDeals(1);
        if (messages == 0) {
            x.lose(0);
        }
        while (x.count(2) < messages) {
            x.twice(0);
        }
        return x;
    }

    private static void set() {
        checks.about("promise 2, ranges");
        Ranges.errorOutside(checks, "set(setting, 1)", a -> new ClerkVotes().set(a, 1), 0, 3, BAD_VALUE);
        for (int setting = 0; setting <= 2; setting++) {
            int s = setting;
            Ranges.errorOutside(checks, "set(" + s + ", value)", a -> new ClerkVotes().set(s, a), 1, 50, BAD_VALUE);
        }
        Ranges.errorOutside(checks, "set(3, value)", a -> new ClerkVotes().set(3, a), 0, 1, BAD_VALUE);
        // Each value that is allowed is kept as it is, and the other settings stay.
        for (int setting = 0; setting <= 3; setting++) {
            ClerkVotes x = new ClerkVotes();
            int[] kept = {6, 4, 5, 0};
            for (int value = setting == 3 ? 0 : 1; value <= (setting == 3 ? 1 : 50); value++) {
                checks.due("set(" + setting + ", " + value + ")", x.set(setting, value), kept[setting]);
                kept[setting] = value;
                for (int other = 0; other <= 3; other++) {
                    checks.due("count(" + (7 + other) + ")", x.count(7 + other), kept[other]);
                }
            }
        }
    }

    private static void willing() {
        checks.about("promise 3, ranges");
        Ranges.errorOutside(checks, "willing(clerk, 0)", a -> new ClerkVotes().willing(a, 0), 0, 3, NO_SUCH);
        Ranges.errorOutside(checks, "willing(clerk, 1)", a -> new ClerkVotes().willing(a, 1), 0, 3, NO_SUCH);
        for (int clerk = 0; clerk <= 3; clerk++) {
            int c = clerk;
            Ranges.errorOutside(checks, "willing(" + c + ", is)", a -> new ClerkVotes().willing(c, a), 0, 1, BAD_VALUE);
        }
    }

    private static void open() {
        checks.about("promise 4, ranges");
        Ranges.errorOutside(checks, "open(clerks)", a -> new ClerkVotes().open(a), 1, 15, BAD_VALUE);
        for (int clerks = 1; clerks <= 15; clerks++) {
            ClerkVotes x = new ClerkVotes();
            x.open(clerks);
            checks.due("its clerks", x.ofDeal(0, 0), clerks);
            checks.due("NEW for them", x.ofDeal(0, 5), clerks);
            StringBuilder want = new StringBuilder();
            for (int clerk = 0; clerk <= 3; clerk++) {
                boolean in = (clerks >> clerk & 1) == 1;
                checks.due("at(0, " + clerk + ")", x.at(0, clerk), in ? 0 : NONE);
                want.append(in ? (want.length() == 0 ? "" : " ") + "004" + clerk : "");
            }
            checks.holds("ASK goes to the clerks of " + clerks + " in ascending order", Everything.row(x).equals(want.toString()));
        }
    }

    private static void places() {
        checks.about("promises 5 to 7, places");
        for (int messages : new int[] {0, 1, 2, 3, 58, 59, 60}) {
            int n = messages;
            String of = "(place) of " + n;
            Ranges.errorOutside(checks, "deliver" + of, a -> withMessages(n).deliver(a), 0, n - 1, NO_SUCH);
            Ranges.errorOutside(checks, "lose" + of, a -> withMessages(n).lose(a), 0, n - 1, NO_SUCH);
            if (n < 60) {
                Ranges.errorOutside(checks, "twice" + of, a -> withMessages(n).twice(a), 0, n - 1, NO_SUCH);
            }
        }
        checks.due("deliver answers how many are left: none", withMessages(1).lose(0), 0);
        checks.due("lose(59) of 60", withMessages(60).lose(59), 59);
        checks.due("twice(58) of 59", withMessages(59).twice(58), 60);
    }

    private static void people() {
        checks.about("promises 8 and 9, ranges");
        Ranges.errorOutside(checks, "fall(who)", a -> new ClerkVotes().fall(a), 0, 4, NO_SUCH);
        Ranges.errorOutside(checks, "rise(who)", a -> {
            ClerkVotes x = new ClerkVotes();
            for (int who = 0; who <= 4; who++) {
                x.fall(who);
            }
            return x.rise(a);
        }, 0, 4, NO_SUCH);
    }

    private static void ticks() {
        checks.about("promise 10, range");
        Ranges.errorOutside(checks, "ticks(ticks)", a -> new ClerkVotes().ticks(a), 1, 100, BAD_VALUE);
        for (int ticks = 1; ticks <= 100; ticks++) {
            ClerkVotes x = new ClerkVotes();
            x.ticks(100);
            checks.due("100 ticks, and ticks(" + ticks + ")", x.ticks(ticks), 100 + ticks);
        }
    }

    private static void ofDeal() {
        checks.about("promise 11, ranges");
        for (int deals = 0; deals <= 8; deals++) {
            ClerkVotes x = withDeals(deals);
            Ranges.errorOutside(checks, "ofDeal(deal, 0) of " + deals, a -> x.ofDeal(a, 0), 0, deals - 1, NO_SUCH);
        }
        ClerkVotes x = withDeals(8);
        Ranges.errorOutside(checks, "ofDeal(0, what)", a -> x.ofDeal(0, a), 0, 8, BAD_VALUE);
        Ranges.errorOutside(checks, "ofDeal(7, what)", a -> x.ofDeal(7, a), 0, 8, BAD_VALUE);
    }

    private static void at() {
        checks.about("promise 12, ranges");
        for (int deals = 0; deals <= 8; deals++) {
            ClerkVotes x = withDeals(deals);
            Ranges.errorOutside(checks, "at(deal, 0) of " + deals, a -> x.at(a, 0), 0, deals - 1, NO_SUCH);
        }
        ClerkVotes x = new ClerkVotes();
        x.open(15);
        Ranges.errorOutside(checks, "at(0, clerk)", a -> x.at(0, a), 0, 3, NO_SUCH);
    }

    private static void message() {
        checks.about("promise 13, ranges");
        for (int messages : new int[] {0, 1, 2, 59, 60}) {
            ClerkVotes x = withMessages(messages);
            Ranges.errorOutside(checks, "message(place, 0) of " + messages, a -> x.message(a, 0), 0, messages - 1, NO_SUCH);
        }
        ClerkVotes x = withMessages(60);
        Ranges.errorOutside(checks, "message(0, what)", a -> x.message(0, a), 0, 3, BAD_VALUE);
        Ranges.errorOutside(checks, "message(59, what)", a -> x.message(59, a), 0, 3, BAD_VALUE);
    }

    private static void who() {
        checks.about("promise 14, ranges");
        Ranges.errorOutside(checks, "who(who, 0)", a -> withMessages(60).who(a, 0), 0, 4, NO_SUCH);
        for (int who = 0; who <= 4; who++) {
            int w = who;
            Ranges.errorOutside(checks, "who(" + w + ", what)", a -> withMessages(60).who(w, a), 0, 4, BAD_VALUE);
        }
    }

    private static void count() {
        checks.about("promise 15, range");
        Ranges.errorOutside(checks, "count(what)", a -> new ClerkVotes().count(a), 0, 13, BAD_VALUE);
    }

    private static void dealsInQuestions() {
        checks.about("promises 16 to 18, deals");
        for (int deals = 0; deals <= 8; deals++) {
            ClerkVotes x = withDeals(deals);
            Ranges.errorOutside(checks, "sure(deal) of " + deals, x::sure, 0, deals - 1, NO_SUCH);
            Ranges.errorOutside(checks, "couldAsk(deal) of " + deals, x::couldAsk, 0, deals - 1, NO_SUCH);
            Ranges.errorOutside(checks, "settledIn(deal) of " + deals, x::settledIn, 0, deals - 1, NO_SUCH);
        }
    }

    private static void rounds() {
        checks.about("promise 19, range");
        ClerkVotes x = withDeals(3);
        Ranges.errorOutside(checks, "underwayIn(rounds)", x::underwayIn, 1, 50, BAD_VALUE);
    }

    private static void worstLoss() {
        checks.about("promise 20, ranges");
        for (int deals = 0; deals <= 8; deals++) {
            ClerkVotes x = withDeals(deals);
            Ranges.errorOutside(checks, "worstLoss(deal, 0) of " + deals, a -> x.worstLoss(a, 0), 0, deals - 1, NO_SUCH);
        }
        ClerkVotes x = withDeals(2);
        Ranges.errorOutside(checks, "worstLoss(1, what)", a -> x.worstLoss(1, a), 0, 1, BAD_VALUE);
    }

    private static void slots() {
        checks.about("promises 26 and 27, ranges");
        Ranges.errorOutside(checks, "save(slot)", a -> new ClerkVotes().save(a), 0, 1, BAD_VALUE);
        Ranges.errorOutside(checks, "restore(slot)", a -> {
            ClerkVotes x = new ClerkVotes();
            x.save(0);
            x.save(1);
            return x.restore(a);
        }, 0, 1, BAD_VALUE);
    }
}
