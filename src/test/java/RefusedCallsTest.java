import java.util.function.Supplier;
import java.util.function.ToIntFunction;

/** Conventions: a call that returns an error changes nothing; each call, with each error that it has. */
public final class RefusedCallsTest {
    private static final int NO_SUCH = -1, BAD_VALUE = -2, BAD_TEXT = -3, TOO_MANY = -4, NOT_POSSIBLE = -5, NONE = -6;
    private static final Checks checks = new Checks();

    public static void main(String[] args) {
        changes();
        looks();
        whatIf();
        texts();
        undoAndSlots();
        checks.end();
    }

    /** Makes two of a kind, refuses a call to one of them, and compares all that comes of them. */
    private static void refused(String call, Supplier<ClerkVotes> made, ToIntFunction<ClerkVotes> refusal, int error) {
        checks.due(call, refusal.applyAsInt(made.get()), error);
        String plain = Futures.of(made);
        String after = Futures.of(() -> {
            ClerkVotes x = made.get();
            refusal.applyAsInt(x);
            return x;
        });
        checks.holds("nothing is different after " + call, after.equals(plain));
    }

    /** Deals of all kinds, messages, somebody ill, a pad that is not finished, a full history, slot 0 saved. */
    private static ClerkVotes mixed() {
        ClerkVotes x = new ClerkVotes();
        x.willing(2, 0);
        x.open(3);
        x.ticks(2);
        x.save(0);
        x.deliver(0);
        x.deliver(0);
        x.deliver(0);
        x.ticks(1);
        x.deliver(0);
        x.open(13);
        x.deliver(0);
        x.deliver(3);
        x.open(15);
        x.deliver(1);
        x.fall(3);
        Everything.put(x, "t1;t");
        return x;
    }

    /** As mixed, but nothing was saved, and the go-between is ill, too. */
    private static ClerkVotes sick() {
        ClerkVotes x = new ClerkVotes();
        x.open(7);
        x.deliver(0);
        x.ticks(3);
        x.open(6);
        x.fall(1);
        x.fall(4);
        Everything.put(x, "o0;d0");
        return x;
    }

    /** 8 deals, 60 messages, 60 characters, a full history. */
    private static ClerkVotes full() {
        ClerkVotes x = new ClerkVotes();
        for (int deal = 0; deal < 8; deal++) {
            x.open(15);
        }
        for (int i = 0; i < 12; i++) {
            x.deliver(3 * i);
        }
        while (x.count(2) < 60) {
            x.twice(20);
        }
        x.save(1);
        x.ticks(2);
        x.fall(4);
        x.rise(4);
        for (int i = 0; i < 20; i++) {
            x.put(Everything.packed(i == 0 ? "t10" : ";d0"));
        }
        return x;
    }

    private static ClerkVotes fullAndIll() {
        ClerkVotes x = full();
        x.fall(4);
        return x;
    }

    /** An ill clerk for whom a deal is NEW again: to fall ill a second time would tear it up, so the refusal must not. */
    private static ClerkVotes newForTheIll() {
        ClerkVotes x = new ClerkVotes();
        x.fall(0);
        x.open(3);
        return x;
    }

    private static void changes() {
        checks.about("refused changes");
        refused("set(4, 1)", RefusedCallsTest::mixed, x -> x.set(4, 1), BAD_VALUE);
        refused("set(-1, 1)", RefusedCallsTest::mixed, x -> x.set(-1, 1), BAD_VALUE);
        for (int setting = 0; setting < 4; setting++) {
            int s = setting;
            int least = s == 3 ? 0 : 1;
            int most = s == 3 ? 1 : 50;
            refused("set(" + s + ", too low)", RefusedCallsTest::mixed, x -> x.set(s, least - 1), BAD_VALUE);
            refused("set(" + s + ", too high)", RefusedCallsTest::mixed, x -> x.set(s, most + 1), BAD_VALUE);
        }
        refused("willing(4, 0)", RefusedCallsTest::mixed, x -> x.willing(4, 0), NO_SUCH);
        refused("willing(-1, 0)", RefusedCallsTest::mixed, x -> x.willing(-1, 0), NO_SUCH);
        refused("willing(0, 2)", RefusedCallsTest::mixed, x -> x.willing(0, 2), BAD_VALUE);
        refused("willing(2, -1)", RefusedCallsTest::mixed, x -> x.willing(2, -1), BAD_VALUE);
        refused("open(0)", RefusedCallsTest::mixed, x -> x.open(0), BAD_VALUE);
        refused("open(16)", RefusedCallsTest::mixed, x -> x.open(16), BAD_VALUE);
        refused("open(1), 8 deals", RefusedCallsTest::full, x -> x.open(1), TOO_MANY);
        refused("open(1), 8 deals, ill", RefusedCallsTest::fullAndIll, x -> x.open(1), TOO_MANY);
        refused("open(1), ill", RefusedCallsTest::sick, x -> x.open(1), NOT_POSSIBLE);
        for (int wrong : new int[] {-1, 60, Integer.MAX_VALUE}) {
            refused("deliver(" + wrong + ")", RefusedCallsTest::full, x -> x.deliver(wrong), NO_SUCH);
            refused("lose(" + wrong + ")", RefusedCallsTest::full, x -> x.lose(wrong), NO_SUCH);
            refused("twice(" + wrong + ")", RefusedCallsTest::full, x -> x.twice(wrong), NO_SUCH);
        }
        refused("deliver(at the end)", RefusedCallsTest::mixed, x -> x.deliver(x.count(2)), NO_SUCH);
        refused("lose(at the end)", RefusedCallsTest::mixed, x -> x.lose(x.count(2)), NO_SUCH);
        refused("twice(at the end)", RefusedCallsTest::mixed, x -> x.twice(x.count(2)), NO_SUCH);
        refused("deliver(0), nothing there", ClerkVotes::new, x -> x.deliver(0), NO_SUCH);
        refused("twice(0), 60 messages", RefusedCallsTest::full, x -> x.twice(0), TOO_MANY);
        refused("twice(59), 60 messages", RefusedCallsTest::full, x -> x.twice(59), TOO_MANY);
        refused("fall(5)", RefusedCallsTest::mixed, x -> x.fall(5), NO_SUCH);
        refused("fall(-1)", RefusedCallsTest::mixed, x -> x.fall(-1), NO_SUCH);
        refused("fall(3), ill", RefusedCallsTest::mixed, x -> x.fall(3), NOT_POSSIBLE);
        refused("fall(4), ill", RefusedCallsTest::sick, x -> x.fall(4), NOT_POSSIBLE);
        refused("fall(0), ill, a deal is NEW", RefusedCallsTest::newForTheIll, x -> x.fall(0), NOT_POSSIBLE);
        refused("rise(5)", RefusedCallsTest::sick, x -> x.rise(5), NO_SUCH);
        refused("rise(-1)", RefusedCallsTest::sick, x -> x.rise(-1), NO_SUCH);
        refused("rise(0), well", RefusedCallsTest::sick, x -> x.rise(0), NOT_POSSIBLE);
        refused("rise(4), well", RefusedCallsTest::mixed, x -> x.rise(4), NOT_POSSIBLE);
        refused("ticks(0)", RefusedCallsTest::mixed, x -> x.ticks(0), BAD_VALUE);
        refused("ticks(101)", RefusedCallsTest::mixed, x -> x.ticks(101), BAD_VALUE);
    }

    private static void looks() {
        checks.about("refused looks");
        refused("ofDeal(3, 0)", RefusedCallsTest::mixed, x -> x.ofDeal(3, 0), NO_SUCH);
        refused("ofDeal(0, 9)", RefusedCallsTest::mixed, x -> x.ofDeal(0, 9), BAD_VALUE);
        refused("at(3, 0)", RefusedCallsTest::mixed, x -> x.at(3, 0), NO_SUCH);
        refused("at(0, 4)", RefusedCallsTest::mixed, x -> x.at(0, 4), NO_SUCH);
        refused("message(60, 0)", RefusedCallsTest::full, x -> x.message(60, 0), NO_SUCH);
        refused("message(0, 4)", RefusedCallsTest::full, x -> x.message(0, 4), BAD_VALUE);
        refused("who(5, 0)", RefusedCallsTest::mixed, x -> x.who(5, 0), NO_SUCH);
        refused("who(0, 5)", RefusedCallsTest::mixed, x -> x.who(0, 5), BAD_VALUE);
        refused("count(14)", RefusedCallsTest::mixed, x -> x.count(14), BAD_VALUE);
        refused("count(-1)", RefusedCallsTest::mixed, x -> x.count(-1), BAD_VALUE);
    }

    private static ClerkVotes silent() {
        ClerkVotes x = mixed();
        while (x.count(2) > 0) {
            x.lose(0);
        }
        return x;
    }

    private static void whatIf() {
        checks.about("refused questions");
        refused("sure(3)", RefusedCallsTest::mixed, x -> x.sure(3), NO_SUCH);
        refused("couldAsk(3)", RefusedCallsTest::mixed, x -> x.couldAsk(3), NO_SUCH);
        refused("settledIn(3)", RefusedCallsTest::mixed, x -> x.settledIn(3), NO_SUCH);
        refused("settledIn(0), never", RefusedCallsTest::sick, x -> x.settledIn(0), NONE);
        refused("underwayIn(0)", RefusedCallsTest::mixed, x -> x.underwayIn(0), BAD_VALUE);
        refused("underwayIn(51)", RefusedCallsTest::mixed, x -> x.underwayIn(51), BAD_VALUE);
        refused("worstLoss(3, 0)", RefusedCallsTest::mixed, x -> x.worstLoss(3, 0), NO_SUCH);
        refused("worstLoss(0, 2)", RefusedCallsTest::mixed, x -> x.worstLoss(0, 2), BAD_VALUE);
        refused("worstLoss(0, 0), no message", RefusedCallsTest::silent, x -> x.worstLoss(0, 0), NONE);
    }

    private static ClerkVotes with59Characters() {
        ClerkVotes x = mixed();
        x.wipe();
        for (int i = 0; i < 59; i++) {
            x.put(i % 2 == 0 ? 't' : '1');
        }
        return x;
    }

    private static void texts() {
        checks.about("refused texts");
        long[] wrong = {0, 32, 127, 255, 'd' << 8, (long) 'd' << 16 | 'd', 1L << 63 | 'd', 0x2061616161616161L, 0x6161616161616120L,
            0x7F61616161616161L, 0x616161616161617FL, -1L, Long.MIN_VALUE};
        for (long characters : wrong) {
            refused("put(" + characters + ")", RefusedCallsTest::mixed, x -> x.put(characters), BAD_VALUE);
            refused("put(" + characters + "), 60 characters", RefusedCallsTest::full, x -> x.put(characters), BAD_VALUE);
        }
        refused("put(one), 60 characters", RefusedCallsTest::full, x -> x.put('d'), TOO_MANY);
        refused("put(two), 59 characters", RefusedCallsTest::with59Characters, x -> x.put(Everything.packed("dd")), TOO_MANY);
        refused("carryOut(), the text ends too early", RefusedCallsTest::mixed, ClerkVotes::carryOut, BAD_TEXT);
        refused("carryOut(), a wrong character", RefusedCallsTest::with59Characters, ClerkVotes::carryOut, BAD_TEXT);
        refused("carryOut(), empty", ClerkVotes::new, ClerkVotes::carryOut, BAD_TEXT);
    }

    private static ClerkVotes allUndone() {
        ClerkVotes x = mixed();
        while (x.count(6) > 0) {
            x.undo();
        }
        return x;
    }

    private static void undoAndSlots() {
        checks.about("refused undo, save and restore");
        refused("undo(), new", ClerkVotes::new, ClerkVotes::undo, NOT_POSSIBLE);
        refused("undo(), all undone", RefusedCallsTest::allUndone, ClerkVotes::undo, NOT_POSSIBLE);
        refused("save(2)", RefusedCallsTest::mixed, x -> x.save(2), BAD_VALUE);
        refused("save(-1)", RefusedCallsTest::mixed, x -> x.save(-1), BAD_VALUE);
        refused("restore(2)", RefusedCallsTest::mixed, x -> x.restore(2), BAD_VALUE);
        refused("restore(-1)", RefusedCallsTest::mixed, x -> x.restore(-1), BAD_VALUE);
        refused("restore(1), nothing saved", RefusedCallsTest::mixed, x -> x.restore(1), NOT_POSSIBLE);
        refused("restore(0), nothing saved", RefusedCallsTest::sick, x -> x.restore(0), NOT_POSSIBLE);
    }
}
