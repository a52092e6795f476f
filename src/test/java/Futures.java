import java.util.function.Supplier;

/**
 * Puts into one text what an object tells and what comes of it later, so that also what cannot be looked at is compared:
 * since when a deal is READY or POST, the pad, the history and the slots. The object is made anew for each of these.
 */
final class Futures {
    private Futures() {
    }

    static String of(Supplier<ClerkVotes> made) {
        return Everything.of(made.get()) + pad(made.get()) + undone(made.get()) + restored(made.get()) + later(made.get());
    }

    private static String pad(ClerkVotes x) {
        StringBuilder text = new StringBuilder("\npad: ");
        text.append(x.fault()).append(' ').append(x.carryOut());
        x.put('1');
        text.append(' ').append(x.fault()).append(' ').append(x.carryOut()).append(Everything.of(x));
        return text.toString();
    }

    private static String undone(ClerkVotes x) {
        StringBuilder text = new StringBuilder("\nundone: ");
        for (int i = 0; i < 8; i++) {
            text.append(x.undo()).append(Everything.of(x)).append('\n');
        }
        return text.toString();
    }

    private static String restored(ClerkVotes x) {
        StringBuilder text = new StringBuilder("\nrestored: ");
        for (int slot = 0; slot < 2; slot++) {
            text.append(x.restore(slot)).append(Everything.of(x)).append('\n');
            x.ticks(7);
            text.append(Everything.row(x)).append('\n');
        }
        return text.toString();
    }

    private static String later(ClerkVotes x) {
        StringBuilder text = new StringBuilder("\nlater: ");
        for (int tick = 0; tick < 60; tick++) {
            text.append(x.ticks(1)).append(Everything.row(x)).append('\n');
            for (int i = 0; i < 4; i++) {
                text.append(x.deliver(0)).append(' ');
            }
        }
        return text.append(Everything.of(x)).toString();
    }
}
