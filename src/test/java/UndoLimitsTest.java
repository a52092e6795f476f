import java.util.ArrayList;
import java.util.List;
import java.util.function.ToIntFunction;

/** Promises 25 to 27 at their limits. */
public final class UndoLimitsTest {
    private static final int NOT_POSSIBLE = -5;
    private static final Checks checks = new Checks();

    public static void main(String[] args) {
        nothingToUndo();
        atMostSix();
        undoAndChangeInTurns();
        undoIsNoChange();
        refusedIsNotRecorded();
        nothingDifferentIsRecorded();
        whatIsNoChangeIsNotRecorded();
        undoOfASettingAndAnIllness();
        undoLeavesPad();
        undoLeavesSlots();
        nothingSaved();
        saveOverwrites();
        slotsAreApart();
        slotKeepsWhatWasSaved();
        restoreIsUndone();
        restoreLeavesPadHistoryAndSlots();
        sinceWhenIsKept();
        sinceWhenIsUndone();
        receiptsAndVotesAreKept();
        allDealsOfAllClerksAreKept();
        checks.end();
    }

    private static void nothingToUndo() {
        checks.about("promise 25, nothing to undo");
        ClerkVotes x = new ClerkVotes();
        checks.due("undo()", x.undo(), NOT_POSSIBLE);
        x.ticks(1);
        checks.due("undo()", x.undo(), 0);
        checks.due("undo()", x.undo(), NOT_POSSIBLE);
        checks.due("undo()", x.undo(), NOT_POSSIBLE);
        checks.due("count(6)", x.count(6), 0);
        checks.due("count(0)", x.count(0), 0);
    }

    private static void atMostSix() {
        checks.about("promise 25, at most 6 states");
        for (int changes = 0; changes <= 30; changes++) {
            ClerkVotes x = new ClerkVotes();
            for (int i = 1; i <= changes; i++) {
                x.ticks(i);
                checks.due("count(6) after " + i, x.count(6), Math.min(i, 6));
            }
            int left = Math.min(changes, 6);
            for (int i = changes; left > 0; i--) {
                left--;
                checks.due("undo() of change " + i + " of " + changes, x.undo(), left);
                checks.due("tick", x.count(0), i * (i - 1) / 2);
            }
            checks.due("undo() of " + changes, x.undo(), NOT_POSSIBLE);
            checks.due("tick", x.count(0), Math.max(0, changes - 6) * (Math.max(0, changes - 6) + 1) / 2);
        }
    }

    private static void undoAndChangeInTurns() {
        checks.about("promise 25, changes and undos in turns");
        // The ticks of the states that can be undone, the latest one last, kept here as a list.
        for (int pattern = 0; pattern < 256; pattern++) {
            ClerkVotes x = new ClerkVotes();
            List<Integer> states = new ArrayList<>();
            int tick = 0;
            for (int step = 0; step < 40; step++) {
                if ((pattern >> step % 8 & 1) == 0) {
                    states.add(tick);
                    if (states.size() > 6) {
                        states.remove(0);
                    }
                    tick += step + 1;
                    checks.due("ticks", x.ticks(step + 1), tick);
                } else if (states.isEmpty()) {
                    checks.due("undo()", x.undo(), NOT_POSSIBLE);
                } else {
                    tick = states.remove(states.size() - 1);
                    checks.due("undo()", x.undo(), states.size());
                }
                checks.due("count(0)", x.count(0), tick);
                checks.due("count(6)", x.count(6), states.size());
            }
        }
    }

    private static void undoIsNoChange() {
        checks.about("promise 25, undo is no change");
        ClerkVotes x = new ClerkVotes();
        x.ticks(1);
        x.ticks(2);
        checks.due("undo()", x.undo(), 1);
        checks.due("undo()", x.undo(), 0);
        checks.due("count(0)", x.count(0), 0);
        checks.due("the undo is not undone", x.undo(), NOT_POSSIBLE);
    }

    private static void refusedIsNotRecorded() {
        checks.about("promise 25, what returns an error records nothing");
        ClerkVotes x = new ClerkVotes();
        x.ticks(3);
        x.set(0, 0);
        x.willing(4, 0);
        x.open(0);
        x.deliver(0);
        x.lose(0);
        x.twice(0);
        x.fall(5);
        x.rise(0);
        x.ticks(0);
        x.carryOut();
        x.restore(0);
        checks.due("count(6)", x.count(6), 1);
        checks.due("undo()", x.undo(), 0);
        checks.due("count(0)", x.count(0), 0);
    }

    private static void recorded(String call, ToIntFunction<ClerkVotes> change) {
        ClerkVotes x = new ClerkVotes();
        x.save(0);
        String before = Everything.withoutPadAndHistory(x);
        checks.holds(call + " is no error", change.applyAsInt(x) >= 0);
        checks.holds("nothing is different after " + call, Everything.withoutPadAndHistory(x).equals(before));
        checks.due("count(6) after " + call, x.count(6), 1);
        checks.due("undo() of " + call, x.undo(), 0);
        checks.holds("nothing is different after undo()", Everything.withoutPadAndHistory(x).equals(before));
    }

    private static void nothingDifferentIsRecorded() {
        checks.about("promise 25, recorded also if nothing is different then");
        recorded("set(0, 6)", x -> x.set(0, 6));
        recorded("set(3, 0)", x -> x.set(3, 0));
        recorded("willing(3, 1)", x -> x.willing(3, 1));
        recorded("restore(0)", x -> x.restore(0));
        recorded("carryOut() of t0", x -> {
            Everything.put(x, "t0");
            return x.carryOut();
        });
    }

    private static void whatIsNoChangeIsNotRecorded() {
        checks.about("promise 25, what is no change records nothing");
        ClerkVotes x = new ClerkVotes();
        x.open(3);
        x.save(0);
        x.save(1);
        x.put('t');
        x.fault();
        x.wipe();
        x.ofDeal(0, 0);
        x.at(0, 0);
        x.message(0, 0);
        x.who(0, 0);
        x.count(0);
        x.sure(0);
        x.couldAsk(0);
        x.settledIn(0);
        x.underwayIn(1);
        x.worstLoss(0, 0);
        checks.due("count(6)", x.count(6), 1);
        checks.due("undo()", x.undo(), 0);
        checks.due("count(1)", x.count(1), 0);
    }

    private static void undoOfASettingAndAnIllness() {
        checks.about("promise 25, everything is as it was before");
        ClerkVotes x = new ClerkVotes();
        x.open(3);
        x.set(0, 50);
        x.set(3, 1);
        x.willing(1, 0);
        x.fall(4);
        x.lose(0);
        checks.due("undo() of lose", x.undo(), 5);
        checks.due("count(2)", x.count(2), 2);
        checks.due("count(4)", x.count(4), 0);
        checks.due("undo() of fall", x.undo(), 4);
        checks.due("who(4, 0)", x.who(4, 0), 0);
        checks.due("ASKING", x.ofDeal(0, 1), 0);
        checks.due("undo() of willing", x.undo(), 3);
        checks.due("who(1, 1)", x.who(1, 1), 1);
        checks.due("undo() of set", x.undo(), 2);
        checks.due("count(10)", x.count(10), 0);
        checks.due("undo() of set", x.undo(), 1);
        checks.due("count(7)", x.count(7), 6);
        checks.due("undo() of open", x.undo(), 0);
        checks.due("count(1)", x.count(1), 0);
        checks.due("count(2)", x.count(2), 0);
        checks.due("who(4, 4)", x.who(4, 4), 0);
    }

    private static void undoLeavesPad() {
        checks.about("promise 25, not the pad");
        ClerkVotes x = new ClerkVotes();
        x.ticks(1);
        Everything.put(x, "t5;t6");
        x.undo();
        checks.due("count(5)", x.count(5), 5);
        checks.due("fault()", x.fault(), -6);
        checks.due("carryOut()", x.carryOut(), 2);
        checks.due("undo()", x.undo(), 0);
        checks.due("count(5), emptied still", x.count(5), 0);
        checks.due("count(0)", x.count(0), 0);
    }

    private static void undoLeavesSlots() {
        checks.about("promise 25, not the slots");
        ClerkVotes x = new ClerkVotes();
        x.ticks(4);
        x.save(0);
        x.ticks(4);
        x.save(0);
        x.undo();
        x.undo();
        checks.due("count(0)", x.count(0), 0);
        checks.due("restore(0), what was saved last", x.restore(0), 8);
        checks.due("restore(1), nothing", x.restore(1), NOT_POSSIBLE);
        x.undo();
        checks.due("restore(0), kept", x.restore(0), 8);
    }

    private static void nothingSaved() {
        checks.about("promise 27, nothing was saved");
        ClerkVotes x = new ClerkVotes();
        checks.due("restore(0)", x.restore(0), NOT_POSSIBLE);
        checks.due("restore(1)", x.restore(1), NOT_POSSIBLE);
        x.save(0);
        checks.due("restore(1)", x.restore(1), NOT_POSSIBLE);
        checks.due("restore(0)", x.restore(0), 0);
        ClerkVotes y = new ClerkVotes();
        y.save(1);
        checks.due("restore(0)", y.restore(0), NOT_POSSIBLE);
        checks.due("restore(1)", y.restore(1), 0);
    }

    private static void saveOverwrites() {
        checks.about("promise 26, overwrites");
        for (int slot = 0; slot <= 1; slot++) {
            ClerkVotes x = new ClerkVotes();
            checks.due("save", x.save(slot), 0);
            x.ticks(100);
            x.open(15);
            checks.due("save", x.save(slot), 100);
            x.ticks(1);
            checks.due("restore", x.restore(slot), 100);
            checks.due("count(1)", x.count(1), 1);
        }
    }

    private static void slotsAreApart() {
        checks.about("promise 26, slots 0 and 1");
        ClerkVotes x = new ClerkVotes();
        x.save(0);
        x.ticks(3);
        x.save(1);
        x.ticks(3);
        checks.due("restore(0)", x.restore(0), 0);
        checks.due("restore(1)", x.restore(1), 3);
        checks.due("restore(0)", x.restore(0), 0);
        checks.due("save(1)", x.save(1), 0);
        checks.due("restore(0)", x.restore(0), 0);
        checks.due("restore(1)", x.restore(1), 0);
    }

    private static void slotKeepsWhatWasSaved() {
        checks.about("promise 27, the slot keeps it");
        ClerkVotes x = new ClerkVotes();
        x.open(3);
        x.deliver(0);
        x.save(0);
        String saved = Everything.withoutPadAndHistory(x);
        for (int i = 0; i < 3; i++) {
            x.ticks(10);
            x.deliver(0);
            x.fall(0);
            x.open(4);
            checks.due("restore(0)", x.restore(0), 0);
            checks.holds("all is as it was saved", Everything.withoutPadAndHistory(x).equals(saved));
        }
    }

    private static void restoreIsUndone() {
        checks.about("promise 27, a change");
        ClerkVotes x = new ClerkVotes();
        x.save(0);
        x.ticks(5);
        checks.due("restore(0)", x.restore(0), 0);
        checks.due("count(6)", x.count(6), 2);
        checks.due("undo()", x.undo(), 1);
        checks.due("count(0)", x.count(0), 5);
    }

    private static void restoreLeavesPadHistoryAndSlots() {
        checks.about("promise 27, not the pad, the history and the slots");
        ClerkVotes x = new ClerkVotes();
        x.put('t');
        x.save(0);
        x.put('7');
        x.ticks(1);
        x.save(1);
        x.ticks(1);
        checks.due("restore(0)", x.restore(0), 0);
        checks.due("count(5)", x.count(5), 2);
        checks.due("count(6)", x.count(6), 3);
        checks.due("restore(1)", x.restore(1), 1);
        checks.due("carryOut()", x.carryOut(), 1);
        checks.due("count(0)", x.count(0), 8);
    }

    private static void row(ClerkVotes x, String want) {
        checks.holds("the row is " + want + ", but it is " + Everything.row(x), Everything.row(x).equals(want));
    }

    /** Slot 0: deal 0 is READY in tick 0; now it is READY in tick 2. */
    private static ClerkVotes readyInTwoWays() {
        ClerkVotes x = new ClerkVotes();
        x.set(0, 50);
        x.open(1);
        x.save(1);
        x.deliver(0);
        x.lose(0);
        x.save(0);
        x.restore(1);
        x.ticks(2);
        x.deliver(0);
        x.lose(0);
        return x;
    }

    /** Slot 0: deal 0 is POST in tick 0; now it is POST in tick 2. Its clerk is ill. */
    private static ClerkVotes postInTwoWays() {
        ClerkVotes x = new ClerkVotes();
        x.open(1);
        x.deliver(0);
        x.fall(0);
        x.save(1);
        x.deliver(0);
        x.lose(0);
        x.save(0);
        x.restore(1);
        x.ticks(2);
        x.deliver(0);
        x.lose(0);
        return x;
    }

    private static void sendsFirst(ClerkVotes x, int inTick, String want) {
        x.ticks(inTick - x.count(0));
        row(x, "");
        x.ticks(1);
        row(x, want);
    }

    private static void sinceWhenIsKept() {
        checks.about("promise 27, since when a deal is READY or POST");
        ClerkVotes ready = readyInTwoWays();
        ready.restore(0);
        sendsFirst(ready, 4, "6004");
        ClerkVotes post = postInTwoWays();
        post.restore(0);
        sendsFirst(post, 5, "3040");
    }

    private static void sinceWhenIsUndone() {
        checks.about("promise 25, since when a deal is READY or POST");
        ClerkVotes ready = readyInTwoWays();
        ready.restore(0);
        ready.undo();
        sendsFirst(ready, 6, "6004");
        ClerkVotes post = postInTwoWays();
        post.restore(0);
        post.undo();
        sendsFirst(post, 7, "3040");
    }

    private static void receiptsAndVotesAreKept() {
        checks.about("promises 25 and 27, votes and receipts");
        ClerkVotes x = new ClerkVotes();
        x.open(3);
        x.deliver(0);
        x.deliver(0);
        x.save(0);
        x.deliver(0);
        checks.due("a vote", x.ofDeal(0, 3), 1);
        x.undo();
        checks.due("no vote", x.ofDeal(0, 3), 0);
        x.deliver(0);
        x.deliver(0);
        x.deliver(0);
        x.deliver(0);
        x.save(1);
        x.deliver(0);
        checks.due("a receipt", x.ofDeal(0, 4), 1);
        x.undo();
        checks.due("no receipt", x.ofDeal(0, 4), 0);
        x.deliver(1);
        checks.due("the other receipt", x.ofDeal(0, 4), 2);
        x.restore(1);
        checks.due("no receipt", x.ofDeal(0, 4), 0);
        checks.due("votes", x.ofDeal(0, 3), 3);
        x.restore(0);
        checks.due("no vote", x.ofDeal(0, 3), 0);
    }

    private static void allDealsOfAllClerksAreKept() {
        checks.about("promises 25 and 27, each of 8 deals for each of 4 clerks");
        ClerkVotes x = new ClerkVotes();
        x.set(0, 50);
        for (int deal = 0; deal < 8; deal++) {
            x.open(15);
        }
        x.save(1);
        // All become READY in the tick in which the saved state is, and otherwise three ticks later.
        readyAll(x);
        x.save(0);
        x.restore(1);
        x.ticks(3);
        readyAll(x);
        x.restore(0);
        checkAsksInTick(x, 4);
        x.undo();
        x.undo();
        x.undo();
        checks.due("tick", x.count(0), 3);
        checkAsksInTick(x, 7);
    }

    private static void readyAll(ClerkVotes x) {
        for (int i = 0; i < 32; i++) {
            x.deliver(0);
            x.lose(x.count(2) - 1);
        }
    }

    private static void checkAsksInTick(ClerkVotes x, int tick) {
        x.ticks(tick - x.count(0));
        row(x, "");
        x.ticks(1);
        checks.due("a question for each deal of each clerk", x.count(2), 32);
        for (int place = 0; place < 32; place++) {
            checks.due("message(" + place + ")", Everything.message(x, place), 6004 + place % 8 * 100 + place / 8 * 10);
        }
    }
}
