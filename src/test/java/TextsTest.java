/** Promises 21 to 24: texts. */
public final class TextsTest {
    private static final Checks checks = new Checks();

    public static void main(String[] args) {
        put();
        putErrors();
        putTooMany();
        wipe();
        fault();
        everyCharacterEverywhere();
        carryOutEachKind();
        carryOutUpToAnError();
        carryOutWithFault();
        checks.end();
    }

    private static void put() {
        checks.about("promise 21");
        ClerkVotes x = new ClerkVotes();
        checks.due("put(\"o\")", x.put('o'), 1);
        checks.due("put(\"0123;d0;\")", x.put(0x303132333B64303BL & ~0L), 9);
        checks.due("put(\"w3\")", x.put(('w' << 8) | '3'), 11);
        checks.due("fault()", x.fault(), 11);
        checks.due("put(\"-\")", x.put('-'), 12);
        checks.due("fault()", x.fault(), -6);
        checks.due("carryOut()", x.carryOut(), 3);
        checks.due("clerks", x.ofDeal(0, 0), 15);
        checks.due("delivered to clerk 0", x.at(0, 0), 1);
        checks.due("not willing", x.who(3, 1), 0);
        checks.due("count(5)", x.count(5), 0);
    }

    private static void putErrors() {
        checks.about("promise 21, errors");
        ClerkVotes x = new ClerkVotes();
        checks.due("put(0)", x.put(0), -2);
        checks.due("put(32)", x.put(32), -2);
        checks.due("put(33)", x.put(33), 1);
        checks.due("put(126)", x.put(126), 2);
        checks.due("put(127)", x.put(127), -2);
        checks.due("put(128)", x.put(128), -2);
        checks.due("put(255)", x.put(255), -2);
        checks.due("put(1)", x.put(1), -2);
        checks.due("put('o' above 0)", x.put('o' << 8), -2);
        checks.due("put('o', 0, 'o')", x.put((long) 'o' << 16 | 'o'), -2);
        checks.due("put(a bit far above 0)", x.put(1L << 63 | 'o'), -2);
        checks.due("put(a bit far above 0)", x.put(1L << 32 | 'o'), -2);
        checks.due("put(' ' above 'o')", x.put((long) ' ' << 8 | 'o'), -2);
        checks.due("put('o' above ' ')", x.put((long) 'o' << 8 | ' '), -2);
        checks.due("put(-1)", x.put(-1), -2);
        checks.due("put(MIN)", x.put(Long.MIN_VALUE), -2);
        checks.due("put(MAX)", x.put(Long.MAX_VALUE), -2);
        checks.due("put(eight, the first one 127)", x.put(0x7F61616161616161L), -2);
        checks.due("put(eight, the first one 128)", x.put(0x8061616161616161L), -2);
        checks.due("put(eight, the first one 126)", x.put(0x7E61616161616161L), 10);
        checks.due("changes", x.count(6), 0);
    }

    private static void putTooMany() {
        checks.about("promise 21, 60 characters");
        ClerkVotes x = new ClerkVotes();
        for (int i = 1; i <= 7; i++) {
            checks.due("put(eight)", x.put(Everything.packed("t1;t1;t1")), 8 * i);
        }
        checks.due("put(five)", x.put(Everything.packed(";t1;t")), -4);
        checks.due("put(five, one too low)", x.put(Everything.packed(";t1; ")), -2);
        checks.due("count(5)", x.count(5), 56);
        checks.due("put(four)", x.put(Everything.packed(";t10")), 60);
        checks.due("put(one)", x.put('1'), -4);
        checks.due("put(none)", x.put(0), -2);
        checks.due("count(5)", x.count(5), 60);
        checks.due("fault()", x.fault(), 8);
    }

    private static void wipe() {
        checks.about("promise 22");
        ClerkVotes x = new ClerkVotes();
        checks.due("wipe()", x.wipe(), 0);
        Everything.put(x, "o0;t9;d0");
        checks.due("wipe()", x.wipe(), 8);
        checks.due("count(5)", x.count(5), 0);
        checks.due("fault()", x.fault(), 0);
        checks.due("wipe()", x.wipe(), 0);
        checks.due("changes", x.count(6), 0);
        Everything.put(x, "t2");
        checks.due("carryOut()", x.carryOut(), 1);
        checks.due("tick", x.count(0), 2);
        checks.due("wipe()", x.wipe(), 0);
    }

    private static void fault(String text, int want) {
        ClerkVotes x = new ClerkVotes();
        Everything.put(x, text);
        checks.due("fault() of \"" + text + "\"", x.fault(), want);
        checks.due("fault() of \"" + text + "\", once more", x.fault(), want);
        checks.due("count(5)", x.count(5), text.length());
    }

    private static void fault() {
        checks.about("promise 23");
        String[] good = {"o0", "o3", "o0123", "o13", "d0", "d9", "d10", "d99", "l0", "l59", "x0", "x4", "r0", "r4", "w0+", "w3-",
            "t0", "t1", "t99", "o0;o1", "o012;d0;l12;x4;r4;w0-;w0+;t99", "t0;t0;t0"};
        for (String text : good) {
            fault(text, -6);
        }
        // It ends too early: the length.
        String[] early = {"", "o", "d", "l", "x", "r", "w", "t", "w0", "o0;", "d12;", "x4;", "w0+;", "t9;w1", "o3;t"};
        for (String text : early) {
            fault(text, text.length());
        }
        // A character that cannot stand at its place.
        fault("a", 0);
        fault("O0", 0);
        fault(";", 0);
        fault("0", 0);
        fault("+", 0);
        fault("o4", 1);
        fault("o-", 1);
        fault("o;", 1);
        fault("o00", 2);
        fault("o10", 2);
        fault("o21", 2);
        fault("o04", 2);
        fault("o0132", 4);
        fault("o01230", 5);
        fault("o0+", 2);
        fault("d00", 2);
        fault("d01", 2);
        fault("d100", 3);
        fault("l990", 3);
        fault("t999", 3);
        fault("d-1", 1);
        fault("d1+", 2);
        fault("t;", 1);
        fault("x5", 1);
        fault("x44", 2);
        fault("r5", 1);
        fault("r10", 2);
        fault("r;", 1);
        fault("w4", 1);
        fault("w4+", 1);
        fault("w0;", 2);
        fault("w00", 2);
        fault("w+", 1);
        fault("w0++", 3);
        fault("w0-1", 3);
        fault("o0;;", 3);
        fault("o0;a", 3);
        fault("t1;t1t1", 5);
        fault("o0d0", 2);
        fault("d1;d;x", 4);
        fault("o0:", 2);
        fault("d/", 1);
        fault("d:", 1);
        fault("o/", 1);
        fault("x/", 1);
        fault("a;o;", 0);
    }

    /** At each place of an order just the characters of the grammar can stand. */
    private static void everyCharacterEverywhere() {
        checks.about("promise 23, all characters");
        String[] ahead = {"", "o", "o1", "o03", "d", "d0", "d7", "d34", "l", "t", "x", "x2", "r", "w", "w2", "w2+", "t5;", "t0;o"};
        String[] next = {"odlxrwt", "0123", "23;", ";", "0123456789", ";", "0123456789;", ";", "0123456789", "0123456789", "01234", ";",
            "01234", "0123", "+-", ";", "odlxrwt", "0123"};
        for (int i = 0; i < ahead.length; i++) {
            for (char c = 33; c <= 126; c++) {
                ClerkVotes x = new ClerkVotes();
                Everything.put(x, ahead[i]);
                x.put(c);
                boolean stands = x.fault() != ahead[i].length();
                checks.holds("'" + c + "' " + (stands ? "cannot" : "can") + " stand behind \"" + ahead[i] + "\"",
                        stands == (next[i].indexOf(c) >= 0));
            }
        }
    }

    private static int carryOut(ClerkVotes x, String text) {
        Everything.put(x, text);
        return x.carryOut();
    }

    private static void carryOutEachKind() {
        checks.about("promise 24");
        ClerkVotes x = new ClerkVotes();
        checks.due("carryOut(o023;w3-;w1-;w1+)", carryOut(x, "o023;w3-;w1-;w1+"), 4);
        checks.holds("deal 0", Everything.row(x).equals("0040 0042 0043") && x.ofDeal(0, 0) == 13);
        checks.due("willing", x.who(3, 1), 0);
        checks.due("willing", x.who(1, 1), 1);
        checks.due("one change", x.count(6), 1);
        checks.due("carryOut(d1;l0;x1;x4;r1;t12)", carryOut(x, "d1;l0;x1;x4;r1;t12"), 6);
        checks.holds("d1 and l0", Everything.message(x, 0) == 43 && Everything.message(x, 1) == 1024);
        checks.due("x1;r1", x.who(1, 0), 0);
        checks.due("x4", x.who(4, 0), 1);
        checks.due("t12", x.count(0), 12);
        checks.due("two changes", x.count(6), 2);
        checks.due("the pad is empty", x.count(5), 0);
        checks.due("undo()", x.undo(), 1);
        checks.holds("all orders of the text are undone",
                Everything.row(x).equals("0040 0042 0043") && x.count(0) == 0 && x.who(4, 0) == 0);
        checks.due("undo()", x.undo(), 0);
        checks.due("deals", x.count(1), 0);
        checks.due("the pad is empty still", x.count(5), 0);
    }

    private static void carryOutUpToAnError() {
        checks.about("promise 24, errors");
        ClerkVotes x = new ClerkVotes();
        checks.due("d0 first", carryOut(x, "d0;o1"), 0);
        checks.due("none is carried out, a change all the same", x.count(6), 1);
        checks.due("the pad is empty", x.count(5), 0);
        checks.due("deals", x.count(1), 0);
        checks.due("t0", carryOut(x, "t5;t0;t7"), 1);
        checks.due("tick", x.count(0), 5);
        checks.due("r0", carryOut(x, "r0"), 0);
        checks.due("x0;x0", carryOut(x, "x0;x0;t1"), 1);
        checks.due("tick", x.count(0), 5);
        checks.due("x4;o0", carryOut(x, "x4;o0;t1"), 1);
        checks.due("o8 times", carryOut(x, "r4;o0;o0;o0;o0;o0;o0;o0;o0;o0"), 9);
        checks.due("deals", x.count(1), 8);
        checks.due("l8", carryOut(x, "l7;l7"), 1);
        checks.due("messages", x.count(2), 7);
        checks.due("the last order too", carryOut(x, "t99"), 1);
        checks.due("tick", x.count(0), 104);
        checks.due("changes", x.count(6), 6);
    }

    private static void carryOutWithFault() {
        checks.about("promise 24, BAD_TEXT");
        ClerkVotes x = new ClerkVotes();
        checks.due("empty", x.carryOut(), -3);
        checks.due("t1;t", carryOut(x, "t1;t"), -3);
        checks.due("tick", x.count(0), 0);
        checks.due("the pad stays", x.count(5), 4);
        checks.due("no change", x.count(6), 0);
        x.put('3');
        checks.due("t1;t3", x.carryOut(), 2);
        checks.due("tick", x.count(0), 4);
        checks.due("t1,t3", carryOut(x, "t1,t3"), -3);
        checks.due("the pad stays", x.wipe(), 5);
        // A pad of 60 characters is carried out whole.
        StringBuilder full = new StringBuilder("t10");
        while (full.length() < 60) {
            full.append(";t1");
        }
        checks.due("60 characters", carryOut(x, full.toString()), 20);
        checks.due("tick", x.count(0), 33);
    }
}
