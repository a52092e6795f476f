/** Random runs of 512 calls, each compared with the plain model; the same runs every time. Promises 1 to 27. */
public final class RandomRunsTest {
    private static final int RUNS = 1500, CALLS = 512;
    private static final int[] ODD = {Integer.MIN_VALUE, -1000, -7, -6, -2, -1, 16, 31, 32, 33, 60, 61, 64, 101, 1 << 20, Integer.MAX_VALUE};

    private long seed;
    private String call;
    // How one run leans: 2 towards illness, 3 towards texts, 4 towards full rows, 5 towards deals that are settled late.
    private int leaning;

    public static void main(String[] args) {
        int runs = args.length > 0 ? Integer.parseInt(args[0]) : RUNS;
        Checks checks = new Checks();
        int[] seen = new int[202];
        for (int run = 0; run < runs; run++) {
            checks.about("run " + run);
            new RandomRunsTest().run(run, checks, seen);
        }
        int late = 0;
        for (int rounds = 60; rounds <= 200; rounds++) {
            late += seen[rounds];
        }
        System.out.println("settledIn: now " + seen[0] + ", in 1 to 5 rounds " + (seen[1] + seen[2] + seen[3] + seen[4] + seen[5])
                + ", in 60 to 200 rounds " + late + ", never " + seen[201]);
        checks.about("random runs");
        checks.holds("deals that are settled late are among them", runs < RUNS || late > 100);
        checks.end();
    }

    private int random(int below) {
        seed = seed * 6364136223846793005L + 1442695040888963407L;
        return (int) ((seed >>> 33) % below);
    }

    /** Mostly a number from low to high, sometimes one just outside, or an odd one. */
    private int number(int low, int high) {
        int dice = random(40);
        if (dice == 0) {
            return ODD[random(ODD.length)];
        }
        if (dice == 1) {
            return random(2) == 0 ? low - 1 : high + 1;
        }
        return low + random(high - low + 1);
    }

    private void run(int run, Checks checks, int[] seen) {
        seed = run * 7919L + 17;
        leaning = random(6);
        ClerkVotes x = new ClerkVotes();
        PlainModel model = new PlainModel();
        StringBuilder calls = new StringBuilder();
        for (int i = 0; i < CALLS; i++) {
            int[] answers = leaning == 5 && i < 120 ? crowd(i, x, model) : step(x, model);
            calls.append(call).append(' ');
            checks.due(call, answers[0], answers[1]);
            if (call.startsWith("settledIn") && (answers[1] >= 0 || answers[1] == -6)) {
                seen[answers[1] == -6 ? 201 : answers[1]]++;
            }
            if (answers[0] != answers[1]) {
                System.out.println("run " + run + ", the calls: " + calls);
                return;
            }
        }
    }

    private int[] step(ClerkVotes x, PlainModel model) {
        int dice = random(100);
        if (dice < 45) {
            return change(x, model);
        }
        if (dice < 55) {
            return whatIf(x, model);
        }
        if (dice < (leaning == 3 ? 75 : 62)) {
            return text(x, model);
        }
        if (dice < (leaning == 3 ? 80 : 66)) {
            return undo(x, model);
        }
        return look(x, model);
    }

    /** Questions of many deals that nobody can answer fill the row, so that others are settled late or never. */
    private int[] crowd(int i, ClerkVotes x, PlainModel model) {
        if (i < 3) {
            int setting = new int[] {1, 3, 0}[i];
            int value = setting == 3 ? 1 : 50 - random(3);
            call = "set(" + setting + ", " + value + ")";
            return both(x.set(setting, value), model.set(setting, value));
        }
        if (i < 11) {
            int clerks = i < 7 ? 15 - random(3) * random(3) : new int[] {12, 12, 12, 7, 3, 10}[random(6)];
            call = "open(" + clerks + ")";
            return both(x.open(clerks), model.open(clerks));
        }
        if (i == 26) {
            call = "willing(2, 0)";
            return both(x.willing(2, 0), model.willing(2, 0));
        }
        if (i < 35) {
            call = "deliver(0)";
            return both(x.deliver(0), model.deliver(0));
        }
        if (i == 35) {
            call = "fall(4)";
            return both(x.fall(4), model.fall(4));
        }
        if (i % 28 == 8) {
            int ticks = 1 + random(i < 40 ? 6 : 60);
            call = "ticks(" + ticks + ")";
            return both(x.ticks(ticks), model.ticks(ticks));
        }
        if (i % 28 < 20) {
            int deal = random(8);
            int what = random(2);
            boolean worst = i % 7 == 0;
            call = worst ? "worstLoss(" + deal + ", " + what + ")" : "settledIn(" + deal + ")";
            return worst ? both(x.worstLoss(deal, what), model.worstLoss(deal, what)) : both(x.settledIn(deal), model.settledIn(deal));
        }
        call = "deliver(0)";
        return both(x.deliver(0), model.deliver(0));
    }

    private static int[] both(int one, int other) {
        return new int[] {one, other};
    }

    private int place(PlainModel model) {
        return number(0, Math.max(0, model.count(2) - 1));
    }

    private int deal(PlainModel model) {
        return number(0, Math.max(0, model.count(1) - 1));
    }

    private int[] change(ClerkVotes x, PlainModel model) {
        int dice = random(100);
        if (dice < (leaning == 2 ? 20 : 8)) {
            int who = number(0, 4);
            boolean ill = model.who(who, 0) == 1;
            if (ill == (random(10) > 0)) {
                call = "rise(" + who + ")";
                return both(x.rise(who), model.rise(who));
            }
            call = "fall(" + who + ")";
            return both(x.fall(who), model.fall(who));
        }
        if (dice < 26) {
            int clerks = number(1, 15);
            call = "open(" + clerks + ")";
            return both(x.open(clerks), model.open(clerks));
        }
        if (dice < 31) {
            int setting = number(0, 3);
            int value = setting == 3 ? number(0, 1) : random(3) == 0 ? number(1, 50) : number(1, 6);
            call = "set(" + setting + ", " + value + ")";
            return both(x.set(setting, value), model.set(setting, value));
        }
        if (dice < 35) {
            int clerk = number(0, 3);
            int is = random(3) > 0 ? 1 : number(0, 1);
            call = "willing(" + clerk + ", " + is + ")";
            return both(x.willing(clerk, is), model.willing(clerk, is));
        }
        if (dice < 47) {
            int ticks = random(4) == 0 ? number(1, 100) : 1 + random(6);
            call = "ticks(" + ticks + ")";
            return both(x.ticks(ticks), model.ticks(ticks));
        }
        int place = random(2) == 0 ? 0 : place(model);
        if (dice < (leaning == 4 ? 75 : 52)) {
            call = "twice(" + place + ")";
            return both(x.twice(place), model.twice(place));
        }
        if (dice < (leaning == 4 ? 78 : 57)) {
            call = "lose(" + place + ")";
            return both(x.lose(place), model.lose(place));
        }
        call = "deliver(" + place + ")";
        return both(x.deliver(place), model.deliver(place));
    }

    private int[] whatIf(ClerkVotes x, PlainModel model) {
        int deal = deal(model);
        switch (random(5)) {
            case 0:
                call = "sure(" + deal + ")";
                return both(x.sure(deal), model.sure(deal));
            case 1:
                call = "couldAsk(" + deal + ")";
                return both(x.couldAsk(deal), model.couldAsk(deal));
            case 2:
                call = "settledIn(" + deal + ")";
                return both(x.settledIn(deal), model.settledIn(deal));
            case 3:
                int rounds = random(2) == 0 ? 1 + random(4) : number(1, 50);
                call = "underwayIn(" + rounds + ")";
                return both(x.underwayIn(rounds), model.underwayIn(rounds));
            default:
                int what = number(0, 1);
                call = "worstLoss(" + deal + ", " + what + ")";
                return both(x.worstLoss(deal, what), model.worstLoss(deal, what));
        }
    }

    private int[] look(ClerkVotes x, PlainModel model) {
        int what;
        switch (random(5)) {
            case 0:
                int deal = deal(model);
                what = number(0, 8);
                call = "ofDeal(" + deal + ", " + what + ")";
                return both(x.ofDeal(deal, what), model.ofDeal(deal, what));
            case 1:
                deal = deal(model);
                int clerk = number(0, 3);
                call = "at(" + deal + ", " + clerk + ")";
                return both(x.at(deal, clerk), model.at(deal, clerk));
            case 2:
                int place = place(model);
                what = number(0, 3);
                call = "message(" + place + ", " + what + ")";
                return both(x.message(place, what), model.message(place, what));
            case 3:
                int who = number(0, 4);
                what = number(0, 4);
                call = "who(" + who + ", " + what + ")";
                return both(x.who(who, what), model.who(who, what));
            default:
                what = number(0, 13);
                call = "count(" + what + ")";
                return both(x.count(what), model.count(what));
        }
    }

    private String order() {
        switch (random(8)) {
            case 0:
                StringBuilder clerks = new StringBuilder("o");
                int set = 1 + random(15);
                for (int clerk = 0; clerk < 4; clerk++) {
                    clerks.append((set >> clerk & 1) == 1 ? "" + clerk : "");
                }
                return clerks.toString();
            case 1: return "x" + random(5);
            case 2: return "r" + random(5);
            case 3: return "w" + random(4) + (random(3) == 0 ? "-" : "+");
            case 4: return "t" + (random(3) == 0 ? random(100) : 1 + random(5));
            case 5: return "l" + random(3);
            default: return "d" + (random(8) == 0 ? random(100) : random(2));
        }
    }

    private long characters() {
        int dice = random(30);
        if (dice == 0) {
            return (long) random(1 << 30) << 33 ^ (long) random(1 << 30) << 8 ^ random(1 << 10);
        }
        String signs = "odlxrwt0123456789+-;;;";
        StringBuilder text = new StringBuilder();
        if (dice < 8) {
            int length = random(9);
            for (int i = 0; i < length; i++) {
                text.append(signs.charAt(random(signs.length())));
            }
        } else {
            text.append(order());
            while (text.length() < 6 && random(3) > 0) {
                text.append(';').append(order());
            }
            if (random(2) == 0) {
                text.append(';');
            }
            if (random(6) == 0) {
                text.setCharAt(random(text.length()), (char) (32 + random(96)));
            }
        }
        text.setLength(Math.min(8, text.length()));
        return Everything.packed(text.toString());
    }

    private int[] text(ClerkVotes x, PlainModel model) {
        int dice = random(20);
        if (dice == 0) {
            call = "wipe()";
            return both(x.wipe(), model.wipe());
        }
        if (dice < 4) {
            call = "fault()";
            return both(x.fault(), model.fault());
        }
        if (dice < 10) {
            call = "carryOut()";
            return both(x.carryOut(), model.carryOut());
        }
        if (dice == 10 && model.fault() >= 0) {
            call = "wipe()";
            return both(x.wipe(), model.wipe());
        }
        long characters = characters();
        call = "put(" + characters + "L)";
        return both(x.put(characters), model.put(characters));
    }

    private int[] undo(ClerkVotes x, PlainModel model) {
        int dice = random(10);
        int slot = number(0, 1);
        if (dice < 2) {
            call = "save(" + slot + ")";
            return both(x.save(slot), model.save(slot));
        }
        if (dice < 4) {
            call = "restore(" + slot + ")";
            return both(x.restore(slot), model.restore(slot));
        }
        call = "undo()";
        return both(x.undo(), model.undo());
    }
}
