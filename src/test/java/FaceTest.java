import java.lang.reflect.Constructor;
import java.lang.reflect.Field;
import java.lang.reflect.Method;
import java.lang.reflect.Modifier;
import java.util.ArrayList;
import java.util.Collections;
import java.util.List;

/** The public face, and promise 1: a new object. */
public final class FaceTest {
    private static final Checks checks = new Checks();

    public static void main(String[] args) {
        constants();
        members();
        newObject();
        checks.end();
    }

    private static void constants() {
        checks.about("constants");
        checks.due("NO_SUCH", ClerkVotes.NO_SUCH, -1);
        checks.due("BAD_VALUE", ClerkVotes.BAD_VALUE, -2);
        checks.due("BAD_TEXT", ClerkVotes.BAD_TEXT, -3);
        checks.due("TOO_MANY", ClerkVotes.TOO_MANY, -4);
        checks.due("NOT_POSSIBLE", ClerkVotes.NOT_POSSIBLE, -5);
        checks.due("NONE", ClerkVotes.NONE, -6);
        checks.due("PATIENCE", ClerkVotes.PATIENCE, 0);
        checks.due("DOUBT", ClerkVotes.DOUBT, 1);
        checks.due("AGAIN", ClerkVotes.AGAIN, 2);
        checks.due("ELDERS", ClerkVotes.ELDERS, 3);
        checks.due("BETWEEN", ClerkVotes.BETWEEN, 4);
    }

    private static void members() {
        checks.about("face");
        Class<?> face = ClerkVotes.class;
        checks.holds("the class is public and final",
                Modifier.isPublic(face.getModifiers()) && Modifier.isFinal(face.getModifiers()));
        List<String> seen = new ArrayList<>();
        for (Constructor<?> c : face.getDeclaredConstructors()) {
            noteUnlessPrivate(seen, c.getModifiers(), "new/" + c.getParameterCount());
        }
        for (Field f : face.getDeclaredFields()) {
            noteUnlessPrivate(seen, f.getModifiers(), f.getName());
        }
        for (Method m : face.getDeclaredMethods()) {
            if (!m.isSynthetic()) {
                noteUnlessPrivate(seen, m.getModifiers(), m.getReturnType() + " " + m.getName() + "/" + m.getParameterCount());
            }
        }
        Collections.sort(seen);
        String want = "[AGAIN, BAD_TEXT, BAD_VALUE, BETWEEN, DOUBT, ELDERS, NONE, NOT_POSSIBLE, NO_SUCH, PATIENCE, TOO_MANY,"
                + " int at/2, int carryOut/0, int couldAsk/1, int count/1, int deliver/1, int fall/1, int fault/0, int lose/1,"
                + " int message/2, int ofDeal/2, int open/1, int put/1, int restore/1, int rise/1, int save/1, int set/2,"
                + " int settledIn/1, int sure/1, int ticks/1, int twice/1, int underwayIn/1, int undo/0, int who/2,"
                + " int willing/2, int wipe/0, int worstLoss/2, new/0]";
        checks.holds("the members that are not private are those of the document, but they are " + seen,
                seen.toString().equals(want));
    }

    private static void noteUnlessPrivate(List<String> seen, int modifiers, String member) {
        if (!Modifier.isPrivate(modifiers)) {
            seen.add(Modifier.isPublic(modifiers) ? member : "not public: " + member);
        }
    }

    private static void newObject() {
        checks.about("promise 1");
        ClerkVotes x = new ClerkVotes();
        int[] counts = {0, 0, 0, 0, 0, 0, 0, 6, 4, 5, 0, 0, 0, 0};
        for (int what = 0; what < counts.length; what++) {
            checks.due("count(" + what + ")", x.count(what), counts[what]);
        }
        int[] numbers = {0, 1, 0, 0, 0};
        for (int who = 0; who <= 4; who++) {
            for (int what = 0; what < numbers.length; what++) {
                checks.due("who(" + who + ", " + what + ")", x.who(who, what), numbers[what]);
            }
        }
        checks.due("ofDeal(0, 0)", x.ofDeal(0, 0), -1);
        checks.due("message(0, 0)", x.message(0, 0), -1);
        checks.due("undo()", x.undo(), -5);
        checks.due("restore(0)", x.restore(0), -5);
        checks.due("restore(1)", x.restore(1), -5);
        checks.due("fault()", x.fault(), 0);
        checks.due("wipe()", x.wipe(), 0);
        // Two objects share nothing.
        ClerkVotes y = new ClerkVotes();
        y.open(15);
        y.ticks(3);
        y.save(0);
        y.put('o');
        checks.due("count(1) of the other object", x.count(1), 0);
        checks.due("count(0) of the other object", x.count(0), 0);
        checks.due("count(5) of the other object", x.count(5), 0);
        checks.due("restore(0) of the other object", x.restore(0), -5);
    }
}
