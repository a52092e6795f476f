/** 'Texts' and promises 21 to 24 at their limits. */
public final class TextsLimitsTest {
    private static final int BAD_VALUE = -2, BAD_TEXT = -3, TOO_MANY = -4, NONE = -6;
    private static final Checks checks = new Checks();

    public static void main(String[] args) {
        oneToEightCharacters();
        codesAtEachPlace();
        noMoreCharacters();
        eachBitAboveTheEnd();
        orderOfTheCharacters();
        sixtyCharacters();
        sixtyAtOnce();
        wipeEmptyAndFull();
        emptyText();
        numbers();
        clerksAndOthers();
        risingDigits();
        firstFaultCounts();
        faultAtTheEdgesOfAFullPad();
        endsTooEarly();
        carryOutAFullPad();
        answersOfNoughtAreNoErrors();
        ordersAtTheLimitsOfTheirCalls();
        firstMiddleLastOrderFails();
        noneCarriedOutIsAChange();
        oneChangeWithAllOrders();
        carryOutKeepsAFaultyPad();
        carryOutOnceOnly();
        checks.end();
    }

    private static ClerkVotes withPad(String text) {
        ClerkVotes x = new ClerkVotes();
        Everything.put(x, text);
        checks.due("count(5)", x.count(5), text.length());
        return x;
    }

    private static void fault(String text, int want) {
        checks.due("fault() of \"" + text + "\"", withPad(text).fault(), want);
        boolean bad = withPad(text).carryOut() == BAD_TEXT;
        checks.holds("carryOut() of \"" + text + "\" is " + (bad ? "not " : "") + "BAD_TEXT", bad == (want != NONE));
    }

    private static int carryOut(ClerkVotes x, String text) {
        Everything.put(x, text);
        return x.carryOut();
    }

    private static void oneToEightCharacters() {
        checks.about("promise 21, 1 to 8 characters");
        checks.due("put(none)", new ClerkVotes().put(0), BAD_VALUE);
        String text = "o0;d0;t1";
        for (int length = 1; length <= 8; length++) {
            ClerkVotes x = new ClerkVotes();
            checks.due("put(" + length + ")", x.put(Everything.packed(text.substring(0, length))), length);
            checks.due("count(5)", x.count(5), length);
            checks.due("put(" + length + "), once more", x.put(Everything.packed(text.substring(0, length))), 2 * length);
        }
    }

    private static void codesAtEachPlace() {
        checks.about("promise 21, codes 33 to 126");
        for (int length = 1; length <= 8; length++) {
            for (int place = 0; place < length; place++) {
                long others = Everything.packed("aaaaaaaa".substring(0, length)) & ~(255L << 8 * place);
                for (int code = 1; code <= 255; code++) {
                    int want = code >= 33 && code <= 126 ? length : BAD_VALUE;
                    checks.due("put(" + length + " with " + code + " at " + place + " from the end)",
                            new ClerkVotes().put(others | (long) code << 8 * place), want);
                }
            }
        }
    }

    private static void noMoreCharacters() {
        checks.about("promise 21, 8 bits that are 0");
        // With 0 at any place but above the first character, something above it is not 0.
        for (int length = 1; length <= 8; length++) {
            for (int place = 0; place < length; place++) {
                long characters = Everything.packed("aaaaaaaa".substring(0, length)) & ~(255L << 8 * place);
                int want = place > 0 && place == length - 1 ? length - 1 : BAD_VALUE;
                checks.due("put(" + length + " with 0 at " + place + " from the end)", new ClerkVotes().put(characters), want);
            }
        }
    }

    private static void eachBitAboveTheEnd() {
        checks.about("promise 21, a bit above 8 bits that are 0");
        for (int length = 0; length <= 6; length++) {
            long characters = Everything.packed("aaaaaaa".substring(0, length));
            for (int bit = 8 * length + 8; bit <= 63; bit++) {
                checks.due("put(" + length + " and bit " + bit + ")", new ClerkVotes().put(characters | 1L << bit), BAD_VALUE);
            }
        }
    }

    private static void orderOfTheCharacters() {
        checks.about("promise 21, the lowest 8 bits are the last character");
        ClerkVotes x = new ClerkVotes();
        checks.due("put(\"t1\")", x.put('t' << 8 | '1'), 2);
        checks.due("put(\"2\")", x.put('2'), 3);
        checks.due("fault()", x.fault(), NONE);
        checks.due("carryOut()", x.carryOut(), 1);
        checks.due("tick", x.count(0), 12);
    }

    private static void sixtyCharacters() {
        checks.about("promise 21, 60 characters");
        for (int length = 52; length <= 60; length++) {
            for (int more = 1; more <= 8; more++) {
                ClerkVotes x = withPad("d".repeat(length));
                int want = length + more <= 60 ? length + more : TOO_MANY;
                checks.due("put(" + more + ") behind " + length, x.put(Everything.packed("dddddddd".substring(0, more))), want);
                checks.due("count(5)", x.count(5), want == TOO_MANY ? length : want);
            }
        }
    }

    private static void sixtyAtOnce() {
        checks.about("promise 21, one by one");
        ClerkVotes x = new ClerkVotes();
        for (int length = 1; length <= 60; length++) {
            checks.due("put(one)", x.put('~'), length);
        }
        checks.due("put(one)", x.put('~'), TOO_MANY);
        checks.due("wipe()", x.wipe(), 60);
        checks.due("put(one)", x.put('!'), 1);
    }

    private static void wipeEmptyAndFull() {
        checks.about("promise 22");
        ClerkVotes x = new ClerkVotes();
        checks.due("wipe(), empty", x.wipe(), 0);
        Everything.put(x, "t".repeat(60));
        checks.due("wipe(), full", x.wipe(), 60);
        checks.due("count(5)", x.count(5), 0);
        checks.due("wipe(), empty again", x.wipe(), 0);
        checks.due("fault(), nothing is left", x.fault(), 0);
        checks.due("it is no change", x.count(6), 0);
        checks.due("what was wiped does not come back", carryOut(x, "t2"), 1);
        checks.due("tick", x.count(0), 2);
    }

    private static void emptyText() {
        checks.about("promise 23, empty");
        ClerkVotes x = new ClerkVotes();
        checks.due("fault()", x.fault(), 0);
        checks.due("carryOut()", x.carryOut(), BAD_TEXT);
        checks.due("no change", x.count(6), 0);
        checks.due("carryOut() of t1", carryOut(x, "t1"), 1);
        checks.due("fault(), emptied", x.fault(), 0);
        checks.due("carryOut(), emptied", x.carryOut(), BAD_TEXT);
    }

    private static void numbers() {
        checks.about("promise 23, numbers of 0 to 99 without leading zeros");
        for (String letter : new String[] {"d", "l", "t"}) {
            fault(letter, 1);
            for (int number = 0; number <= 120; number++) {
                fault(letter + number, number <= 99 ? NONE : 3);
                fault("o0;" + letter + number, number <= 99 ? NONE : 6);
                fault(letter + number + ";x0", number <= 99 ? NONE : 3);
            }
            for (int number = 0; number <= 9; number++) {
                fault(letter + "0" + number, 2);
                fault(letter + "00" + number, 2);
            }
            fault(letter + "999", 3);
            fault(letter + "1000", 3);
            fault(letter + "-1", 1);
            fault(letter + "+1", 1);
            fault(letter + ";", 1);
        }
    }

    private static void clerksAndOthers() {
        checks.about("promise 23, clerk is 0 to 3, who is 0 to 4");
        for (int digit = 0; digit <= 9; digit++) {
            fault("o" + digit, digit <= 3 ? NONE : 1);
            fault("x" + digit, digit <= 4 ? NONE : 1);
            fault("r" + digit, digit <= 4 ? NONE : 1);
            fault("w" + digit, digit <= 3 ? 2 : 1);
            fault("w" + digit + "+", digit <= 3 ? NONE : 1);
            fault("w" + digit + "-", digit <= 3 ? NONE : 1);
            fault("x0" + digit, 2);
            fault("r4" + digit, 2);
            fault("w1" + digit, 2);
            fault("w1+" + digit, 3);
        }
        fault("w1+-", 3);
        fault("w+", 1);
        fault("w1;", 2);
    }

    private static void risingDigits() {
        checks.about("promise 23, the clerks' digits rise");
        for (int first = 0; first <= 3; first++) {
            for (int second = 0; second <= 4; second++) {
                fault("o" + first + second, second > first && second <= 3 ? NONE : 2);
                for (int third = 0; third <= 4 && second > first && second <= 3; third++) {
                    fault("o" + first + second + third, third > second && third <= 3 ? NONE : 3);
                }
            }
        }
        fault("o0123", NONE);
        fault("o01233", 5);
        fault("o01234", 5);
        fault("o0123;o3210", 8);
    }

    private static void firstFaultCounts() {
        checks.about("promise 23, the first of several faults");
        fault("q;q", 0);
        fault("o0;q;q", 3);
        fault("t100;q", 3);
        fault("x5;x5", 1);
        fault("t1;;;", 3);
        fault("t1,;", 2);
        fault("t", 1);
        fault("tq", 1);
    }

    private static void faultAtTheEdgesOfAFullPad() {
        checks.about("promise 23, 60 characters");
        String orders = ";d0".repeat(18);
        fault("t10" + orders + ";d0", NONE);
        fault("q10" + orders + ";d0", 0);
        fault("t10" + orders + ";dq", 59);
        fault("t10" + orders + ";d;", 59);
        fault("t1" + orders + ";d00", 59);
        fault("t" + orders + ";d111", 1);
        fault("t1" + orders + ";d1;", 60);
        fault("t10" + orders + ";w1", 60);
        fault("t10;t1" + ";d0".repeat(17) + ";x", 59);
        fault("t10;t10" + ";d0".repeat(17) + ";x", 60);
    }

    private static void endsTooEarly() {
        checks.about("promise 23, the text ends too early");
        String[] texts = {"o", "d", "l", "t", "x", "r", "w", "w0", "w3", "o0;", "o0123;", "d0;", "d99;", "l5;", "t10;", "x4;",
            "r0;", "w0+;", "w0-;", "t1;o", "t1;w2", "t1;t2;"};
        for (String text : texts) {
            fault(text, text.length());
        }
    }

    private static void carryOutAFullPad() {
        checks.about("promise 24, 60 characters");
        ClerkVotes x = new ClerkVotes();
        StringBuilder text = new StringBuilder("t10");
        while (text.length() < 60) {
            text.append(";t1");
        }
        checks.due("carryOut()", carryOut(x, text.toString()), 20);
        checks.due("tick", x.count(0), 29);
        checks.due("count(5)", x.count(5), 0);
        checks.due("a full pad again", carryOut(x, text.toString()), 20);
        checks.due("tick", x.count(0), 58);
    }

    private static void answersOfNoughtAreNoErrors() {
        checks.about("promise 24, an order that returns 0 returns no error");
        ClerkVotes x = new ClerkVotes();
        // Deal 0, no message left, nobody ill, not willing before.
        checks.due("o0;l0", carryOut(x, "o0;l0"), 2);
        checks.due("x1;r1", carryOut(x, "x1;r1"), 2);
        checks.due("w2-;w2-;w2+", carryOut(x, "w2-;w2-;w2+"), 3);
        checks.due("willing", x.who(2, 1), 1);
        x.fall(0);
        checks.due("o0;d0", carryOut(x, "o0;d0"), 2);
        checks.due("count(2)", x.count(2), 0);
    }

    private static void ordersAtTheLimitsOfTheirCalls() {
        checks.about("promise 24, the least and the most that an order can say");
        ClerkVotes x = new ClerkVotes();
        checks.due("t0 is an error", carryOut(x, "t0"), 0);
        checks.due("t1;t99", carryOut(x, "t1;t99"), 2);
        checks.due("tick", x.count(0), 100);
        checks.due("o0123", carryOut(x, "o0123"), 1);
        checks.due("clerks", x.ofDeal(0, 0), 15);
        while (x.count(2) < 60) {
            x.twice(x.count(2) - 4);
        }
        checks.due("l59", carryOut(x, "l59"), 1);
        checks.due("l59 of 59", carryOut(x, "l59"), 0);
        checks.due("d58;d99", carryOut(x, "d58;d99"), 1);
        checks.due("d0 to l58, all of 59", carryOut(x, "d0;l58;l58"), 2);
        checks.due("x4;x4", carryOut(x, "x4;x4"), 1);
        checks.due("o0 with the go-between ill", carryOut(x, "o0"), 0);
        checks.due("r4;r4", carryOut(x, "r4;r4"), 1);
        checks.due("w3-;w0-", carryOut(x, "w3-;w0-"), 2);
        checks.due("who(3, 1)", x.who(3, 1), 0);
        checks.due("who(0, 1)", x.who(0, 1), 0);
    }

    private static void firstMiddleLastOrderFails() {
        checks.about("promise 24, up to the first order that returns an error");
        String[] texts = {"l0;t1;t2;t3", "t1;l0;t2;t3", "t1;t2;l0;t3", "t1;t2;t3;l0", "t1;t2;t3"};
        int[] carriedOut = {0, 1, 2, 3, 3};
        int[] ticks = {0, 1, 3, 6, 6};
        for (int i = 0; i < texts.length; i++) {
            ClerkVotes x = new ClerkVotes();
            checks.due("carryOut() of " + texts[i], carryOut(x, texts[i]), carriedOut[i]);
            checks.due("tick", x.count(0), ticks[i]);
            checks.due("the pad is empty", x.count(5), 0);
            checks.due("one change", x.count(6), 1);
            checks.due("undo()", x.undo(), 0);
            checks.due("tick", x.count(0), 0);
        }
    }

    private static void noneCarriedOutIsAChange() {
        checks.about("promise 24, a change also if none is carried out");
        ClerkVotes x = new ClerkVotes();
        x.ticks(5);
        checks.due("d0", carryOut(x, "d0"), 0);
        checks.due("count(6)", x.count(6), 2);
        checks.due("undo()", x.undo(), 1);
        checks.due("tick", x.count(0), 5);
        checks.due("undo()", x.undo(), 0);
        checks.due("tick", x.count(0), 0);
    }

    private static void oneChangeWithAllOrders() {
        checks.about("promise 24, one change with all orders");
        ClerkVotes x = new ClerkVotes();
        for (int i = 1; i <= 6; i++) {
            x.ticks(i);
        }
        checks.due("ten orders", carryOut(x, "t1;t1;t1;t1;t1;t1;t1;t1;t1;t1"), 10);
        checks.due("tick", x.count(0), 31);
        checks.due("count(6)", x.count(6), 6);
        checks.due("undo()", x.undo(), 5);
        checks.due("tick", x.count(0), 21);
        checks.due("undo()", x.undo(), 4);
        checks.due("tick", x.count(0), 15);
    }

    private static void carryOutKeepsAFaultyPad() {
        checks.about("promise 24, BAD_TEXT");
        ClerkVotes x = new ClerkVotes();
        checks.due("t1;t2;q", carryOut(x, "t1;t2;q"), BAD_TEXT);
        checks.due("nothing is carried out", x.count(0), 0);
        checks.due("no change", x.count(6), 0);
        checks.due("the pad stays", x.count(5), 7);
        checks.due("its fault, too", x.fault(), 6);
        checks.due("wipe()", x.wipe(), 7);
        checks.due("t3;t", carryOut(x, "t3;t"), BAD_TEXT);
        checks.due("it goes on where it was", carryOut(x, "4"), 2);
        checks.due("tick", x.count(0), 7);
    }

    private static void carryOutOnceOnly() {
        checks.about("promise 24, the pad is emptied");
        ClerkVotes x = new ClerkVotes();
        checks.due("t4", carryOut(x, "t4"), 1);
        checks.due("carryOut() again", x.carryOut(), BAD_TEXT);
        checks.due("tick", x.count(0), 4);
        checks.due("the last order fails: nothing of the text is left", carryOut(x, "t1;d0;t1"), 1);
        checks.due("wipe()", x.wipe(), 0);
    }
}
