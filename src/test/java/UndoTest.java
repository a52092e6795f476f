/** Promises 25 to 27: undo, saving. */
public final class UndoTest {
    private static final Checks checks = new Checks();

    public static void main(String[] args) {
        undoEachChange();
        undoSix();
        whatIsNoChange();
        undoLeavesPadAndSlots();
        save();
        saveErrors();
        restore();
        checks.end();
    }

    /** Makes one change of each kind; the index says which. */
    private static int change(ClerkVotes x, int which) {
        switch (which) {
            case 0: return x.set(0, 9);
            case 1: return x.set(0, 9);
            case 2: return x.set(3, 1);
            case 3: return x.willing(2, 0);
            case 4: return x.open(7);
            case 5: return x.deliver(1);
            case 6: return x.deliver(1);
            case 7: return x.lose(0);
            case 8: return x.twice(1);
            case 9: return x.fall(3);
            case 10: return x.ticks(17);
            case 11: return x.rise(3);
            case 12: return x.fall(4);
            case 13: return x.deliver(0);
            case 14: return x.save(0);
            case 15: return x.restore(0);
            case 16: Everything.put(x, "d0;t3;t0"); return x.carryOut();
            case 17: return x.rise(4);
            case 18: return x.deliver(0);
            case 19: return x.deliver(2);
            default: return x.ticks(1);
        }
    }

    private static void undoEachChange() {
        checks.about("promise 25");
        ClerkVotes x = new ClerkVotes();
        int undoable = 0;
        for (int which = 0; which <= 20; which++) {
            String before = Everything.withoutPadAndHistory(x);
            checks.holds("change " + which + " is possible", change(x, which) >= 0);
            String after = Everything.withoutPadAndHistory(x);
            if (which == 14) {
                continue;
            }
            undoable = Math.min(undoable + 1, 6);
            checks.due("count(6)", x.count(6), undoable);
            checks.due("undo() of change " + which, x.undo(), undoable - 1);
            checks.holds("change " + which + " is undone", Everything.withoutPadAndHistory(x).equals(before));
            checks.holds("change " + which + " is possible again", change(x, which) >= 0);
            checks.holds("it does the same again", Everything.withoutPadAndHistory(x).equals(after));
        }
    }

    private static void undoSix() {
        checks.about("promise 25, six states");
        ClerkVotes x = new ClerkVotes();
        checks.due("undo()", x.undo(), -5);
        for (int i = 1; i <= 9; i++) {
            x.ticks(i);
            checks.due("count(6)", x.count(6), Math.min(i, 6));
        }
        int[] before = {36, 28, 21, 15, 10, 6};
        for (int i = 0; i < 6; i++) {
            checks.due("undo()", x.undo(), 5 - i);
            checks.due("tick", x.count(0), before[i]);
        }
        checks.due("undo()", x.undo(), -5);
        checks.due("tick", x.count(0), 6);
        // What is undone is gone: a change then is recorded anew.
        x.ticks(1);
        x.ticks(1);
        checks.due("undo()", x.undo(), 1);
        x.ticks(10);
        checks.due("tick", x.count(0), 17);
        checks.due("undo()", x.undo(), 1);
        checks.due("tick", x.count(0), 7);
        checks.due("undo()", x.undo(), 0);
        checks.due("tick", x.count(0), 6);
    }

    private static void whatIsNoChange() {
        checks.about("promise 25, what records nothing");
        ClerkVotes x = new ClerkVotes();
        x.put('t');
        x.fault();
        x.carryOut();
        x.wipe();
        x.save(0);
        x.save(1);
        x.settledIn(0);
        x.underwayIn(3);
        x.worstLoss(0, 0);
        x.deliver(0);
        x.open(0);
        checks.due("count(6)", x.count(6), 0);
        // A change that makes nothing different is recorded, too.
        x.set(0, 6);
        checks.due("count(6)", x.count(6), 1);
        x.willing(0, 1);
        checks.due("count(6)", x.count(6), 2);
        x.restore(0);
        checks.due("count(6)", x.count(6), 3);
        x.undo();
        checks.due("count(6)", x.count(6), 2);
    }

    private static void undoLeavesPadAndSlots() {
        checks.about("promise 25, pad and slots");
        ClerkVotes x = new ClerkVotes();
        x.ticks(5);
        x.save(1);
        Everything.put(x, "t4");
        checks.due("undo()", x.undo(), 0);
        checks.due("count(5)", x.count(5), 2);
        checks.due("tick", x.count(0), 0);
        checks.due("carryOut()", x.carryOut(), 1);
        checks.due("undo()", x.undo(), 0);
        checks.due("the pad does not come back", x.count(5), 0);
        checks.due("restore(1)", x.restore(1), 5);
        checks.due("undo()", x.undo(), 0);
        checks.due("tick", x.count(0), 0);
    }

    private static void save() {
        checks.about("promise 26");
        ClerkVotes x = new ClerkVotes();
        checks.due("save(0)", x.save(0), 0);
        x.ticks(7);
        x.open(3);
        checks.due("save(1)", x.save(1), 7);
        x.ticks(1);
        checks.due("restore(0)", x.restore(0), 0);
        checks.due("deals", x.count(1), 0);
        checks.due("restore(1)", x.restore(1), 7);
        checks.due("deals", x.count(1), 1);
        x.ticks(2);
        checks.due("save(0) overwrites", x.save(0), 9);
        checks.due("restore(1)", x.restore(1), 7);
        checks.due("restore(0)", x.restore(0), 9);
        // Neither the pad nor the history is saved.
        x.put('x');
        x.restore(1);
        checks.due("count(5)", x.count(5), 1);
        checks.due("count(6)", x.count(6), 6);
    }

    private static void saveErrors() {
        checks.about("promises 26 and 27, errors");
        ClerkVotes x = new ClerkVotes();
        int[] wrong = {-1, 2, 31, 32, Integer.MIN_VALUE, Integer.MAX_VALUE};
        for (int slot : wrong) {
            checks.due("save(" + slot + ")", x.save(slot), -2);
            checks.due("restore(" + slot + ")", x.restore(slot), -2);
        }
        checks.due("restore(0)", x.restore(0), -5);
        x.save(1);
        checks.due("restore(0)", x.restore(0), -5);
        checks.due("restore(1)", x.restore(1), 0);
        checks.due("count(6)", x.count(6), 1);
    }

    private static void restore() {
        checks.about("promise 27");
        ClerkVotes x = new ClerkVotes();
        x.set(1, 2);
        x.set(2, 3);
        x.willing(3, 0);
        x.open(15);
        x.open(3);
        x.deliver(3);
        x.deliver(4);
        x.deliver(0);
        x.lose(0);
        x.ticks(9);
        x.fall(1);
        String saved = Everything.withoutPadAndHistory(x);
        x.save(0);
        x.deliver(0);
        x.set(0, 1);
        x.set(3, 1);
        x.rise(1);
        x.ticks(20);
        x.open(9);
        x.willing(3, 1);
        String later = Everything.withoutPadAndHistory(x);
        checks.due("restore(0)", x.restore(0), 9);
        checks.holds("all is as it was saved", Everything.withoutPadAndHistory(x).equals(saved));
        x.ticks(30);
        x.open(4);
        checks.due("restore(0), the slot keeps it", x.restore(0), 9);
        checks.holds("all is as it was saved", Everything.withoutPadAndHistory(x).equals(saved));
        x.undo();
        x.undo();
        x.undo();
        checks.due("undo()", x.undo(), 2);
        checks.holds("restore is undone", Everything.withoutPadAndHistory(x).equals(later));
        checks.due("undo()", x.undo(), 1);
    }
}
