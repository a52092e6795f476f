/** Conventions: errors are checked in the order in which they are named, and NONE comes after all of them. */
public final class ErrorOrderTest {
    private static final int NO_SUCH = -1, BAD_VALUE = -2, TOO_MANY = -4, NOT_POSSIBLE = -5, NONE = -6;
    private static final Checks checks = new Checks();

    public static void main(String[] args) {
        willing();
        open();
        twice();
        fallAndRise();
        ofDeal();
        at();
        message();
        who();
        settledIn();
        worstLoss();
        put();
        restore();
        checks.end();
    }

    private static void willing() {
        checks.about("promise 3, NO_SUCH ahead of BAD_VALUE");
        ClerkVotes x = new ClerkVotes();
        checks.due("willing(4, 2)", x.willing(4, 2), NO_SUCH);
        checks.due("willing(-1, -1)", x.willing(-1, -1), NO_SUCH);
        checks.due("willing(4, 1)", x.willing(4, 1), NO_SUCH);
        checks.due("willing(3, 2)", x.willing(3, 2), BAD_VALUE);
    }

    private static void open() {
        checks.about("promise 4, BAD_VALUE, TOO_MANY, NOT_POSSIBLE");
        ClerkVotes ill = new ClerkVotes();
        ill.fall(4);
        checks.due("ill: open(0)", ill.open(0), BAD_VALUE);
        checks.due("ill: open(16)", ill.open(16), BAD_VALUE);
        checks.due("ill: open(15)", ill.open(15), NOT_POSSIBLE);
        ClerkVotes full = new ClerkVotes();
        for (int i = 0; i < 8; i++) {
            full.open(1);
        }
        checks.due("8 deals: open(0)", full.open(0), BAD_VALUE);
        checks.due("8 deals: open(16)", full.open(16), BAD_VALUE);
        checks.due("8 deals: open(1)", full.open(1), TOO_MANY);
        full.fall(4);
        checks.due("8 deals, ill: open(0)", full.open(0), BAD_VALUE);
        checks.due("8 deals, ill: open(16)", full.open(16), BAD_VALUE);
        checks.due("8 deals, ill: open(1)", full.open(1), TOO_MANY);
        ClerkVotes seven = new ClerkVotes();
        for (int i = 0; i < 7; i++) {
            seven.open(1);
        }
        seven.fall(4);
        checks.due("7 deals, ill: open(1)", seven.open(1), NOT_POSSIBLE);
    }

    private static void twice() {
        checks.about("promise 7, NO_SUCH ahead of TOO_MANY");
        ClerkVotes x = new ClerkVotes();
        x.open(1);
        while (x.count(2) < 60) {
            x.twice(0);
        }
        checks.due("60 messages: twice(60)", x.twice(60), NO_SUCH);
        checks.due("60 messages: twice(-1)", x.twice(-1), NO_SUCH);
        checks.due("60 messages: twice(59)", x.twice(59), TOO_MANY);
        checks.due("60 messages: twice(0)", x.twice(0), TOO_MANY);
    }

    private static void fallAndRise() {
        checks.about("promises 8 and 9, NO_SUCH ahead of NOT_POSSIBLE");
        ClerkVotes x = new ClerkVotes();
        checks.due("all are well: rise(5)", x.rise(5), NO_SUCH);
        checks.due("all are well: rise(-1)", x.rise(-1), NO_SUCH);
        checks.due("all are well: rise(4)", x.rise(4), NOT_POSSIBLE);
        for (int who = 0; who <= 4; who++) {
            x.fall(who);
        }
        checks.due("all are ill: fall(5)", x.fall(5), NO_SUCH);
        checks.due("all are ill: fall(-1)", x.fall(-1), NO_SUCH);
        checks.due("all are ill: fall(0)", x.fall(0), NOT_POSSIBLE);
    }

    private static void ofDeal() {
        checks.about("promise 11, NO_SUCH ahead of BAD_VALUE");
        ClerkVotes x = new ClerkVotes();
        checks.due("no deal: ofDeal(0, 9)", x.ofDeal(0, 9), NO_SUCH);
        x.open(1);
        checks.due("ofDeal(1, 9)", x.ofDeal(1, 9), NO_SUCH);
        checks.due("ofDeal(-1, -1)", x.ofDeal(-1, -1), NO_SUCH);
        checks.due("ofDeal(0, 9)", x.ofDeal(0, 9), BAD_VALUE);
        checks.due("ofDeal(0, -1)", x.ofDeal(0, -1), BAD_VALUE);
    }

    private static void at() {
        checks.about("promise 12, NO_SUCH ahead of NONE");
        ClerkVotes x = new ClerkVotes();
        checks.due("no deal: at(0, 1)", x.at(0, 1), NO_SUCH);
        x.open(1);
        checks.due("at(1, 1), no such deal", x.at(1, 1), NO_SUCH);
        checks.due("at(0, 4), the go-between is no clerk", x.at(0, 4), NO_SUCH);
        checks.due("at(0, -1)", x.at(0, -1), NO_SUCH);
        checks.due("at(0, 3)", x.at(0, 3), NONE);
    }

    private static void message() {
        checks.about("promise 13, NO_SUCH ahead of BAD_VALUE");
        ClerkVotes x = new ClerkVotes();
        checks.due("no message: message(0, 4)", x.message(0, 4), NO_SUCH);
        x.open(1);
        checks.due("message(1, 4)", x.message(1, 4), NO_SUCH);
        checks.due("message(-1, -1)", x.message(-1, -1), NO_SUCH);
        checks.due("message(0, 4)", x.message(0, 4), BAD_VALUE);
    }

    private static void who() {
        checks.about("promise 14, NO_SUCH ahead of BAD_VALUE");
        ClerkVotes x = new ClerkVotes();
        checks.due("who(5, 5)", x.who(5, 5), NO_SUCH);
        checks.due("who(-1, -1)", x.who(-1, -1), NO_SUCH);
        checks.due("who(4, 5)", x.who(4, 5), BAD_VALUE);
    }

    private static void settledIn() {
        checks.about("promise 18, NO_SUCH ahead of NONE");
        ClerkVotes x = new ClerkVotes();
        x.open(1);
        x.deliver(0);
        x.fall(4);
        checks.due("settledIn(0)", x.settledIn(0), NONE);
        checks.due("settledIn(1)", x.settledIn(1), NO_SUCH);
        checks.due("settledIn(-1)", x.settledIn(-1), NO_SUCH);
    }

    private static void worstLoss() {
        checks.about("promise 20, NO_SUCH, BAD_VALUE, NONE");
        ClerkVotes x = new ClerkVotes();
        checks.due("no deal, no message: worstLoss(0, 2)", x.worstLoss(0, 2), NO_SUCH);
        checks.due("no deal, no message: worstLoss(0, 0)", x.worstLoss(0, 0), NO_SUCH);
        x.open(1);
        checks.due("worstLoss(1, 2)", x.worstLoss(1, 2), NO_SUCH);
        checks.due("worstLoss(-1, -1)", x.worstLoss(-1, -1), NO_SUCH);
        x.lose(0);
        checks.due("no message: worstLoss(1, 2)", x.worstLoss(1, 2), NO_SUCH);
        checks.due("no message: worstLoss(1, 0)", x.worstLoss(1, 0), NO_SUCH);
        checks.due("no message: worstLoss(0, 2)", x.worstLoss(0, 2), BAD_VALUE);
        checks.due("no message: worstLoss(0, -1)", x.worstLoss(0, -1), BAD_VALUE);
        checks.due("no message: worstLoss(0, 0)", x.worstLoss(0, 0), NONE);
        checks.due("no message: worstLoss(0, 1)", x.worstLoss(0, 1), NONE);
    }

    private static void put() {
        checks.about("promise 21, BAD_VALUE ahead of TOO_MANY");
        ClerkVotes x = new ClerkVotes();
        for (int i = 0; i < 60; i++) {
            x.put('d');
        }
        checks.due("60 characters: put(0)", x.put(0), BAD_VALUE);
        checks.due("60 characters: put(32)", x.put(32), BAD_VALUE);
        checks.due("60 characters: put(127)", x.put(127), BAD_VALUE);
        checks.due("60 characters: put('d', 0, 'd')", x.put((long) 'd' << 16 | 'd'), BAD_VALUE);
        checks.due("60 characters: put('d')", x.put('d'), TOO_MANY);
    }

    private static void restore() {
        checks.about("promise 27, BAD_VALUE ahead of NOT_POSSIBLE");
        ClerkVotes x = new ClerkVotes();
        checks.due("restore(2)", x.restore(2), BAD_VALUE);
        checks.due("restore(-1)", x.restore(-1), BAD_VALUE);
        checks.due("restore(1)", x.restore(1), NOT_POSSIBLE);
    }
}
