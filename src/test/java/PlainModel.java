import java.util.ArrayDeque;
import java.util.ArrayList;
import java.util.Arrays;
import java.util.Deque;
import java.util.List;
import java.util.regex.Matcher;
import java.util.regex.Pattern;

/**
 * The document once more, written another way (objects, lists, a regular expression, copies of whole states) and with the
 * Java library, so that ClerkVotes can be compared with it over random calls.
 */
final class PlainModel {
    enum Kind { ASK, YES, NO, POSTS, TEARS, GOT, WHAT }

    enum Standing { NEW, READY, POSTED, TORN }

    enum Mind { ASKING, POST, TEAR, DONE }

    record Message(Kind kind, int deal, int from, int to) {
    }

    static final class Part {
        Standing standing = Standing.NEW;
        int readyTick;
        boolean voted;
        boolean receipt;

        Part copy() {
            Part p = new Part();
            p.standing = standing;
            p.readyTick = readyTick;
            p.voted = voted;
            p.receipt = receipt;
            return p;
        }
    }

    static final class Deal {
        final Part[] parts = new Part[4];
        Mind mind = Mind.ASKING;
        int opened;
        int postTick;

        Deal copy() {
            Deal d = new Deal();
            for (int c = 0; c < 4; c++) {
                d.parts[c] = parts[c] == null ? null : parts[c].copy();
            }
            d.mind = mind;
            d.opened = opened;
            d.postTick = postTick;
            return d;
        }

        boolean settled() {
            return Arrays.stream(parts).allMatch(p -> p == null || p.standing == Standing.POSTED || p.standing == Standing.TORN);
        }

        boolean some(Standing s) {
            return Arrays.stream(parts).anyMatch(p -> p != null && p.standing == s);
        }
    }

    static final class World {
        int tick;
        int[] settings = {6, 4, 5, 0};
        boolean[] ill = new boolean[5];
        boolean[] willing = {true, true, true, true, true};
        int[] got = new int[5];
        int[] sent = new int[5];
        int lost;
        List<Deal> deals = new ArrayList<>();
        List<Message> row = new ArrayList<>();

        World copy() {
            World w = new World();
            w.tick = tick;
            w.settings = settings.clone();
            w.ill = ill.clone();
            w.willing = willing.clone();
            w.got = got.clone();
            w.sent = sent.clone();
            w.lost = lost;
            for (Deal d : deals) {
                w.deals.add(d.copy());
            }
            w.row.addAll(row);
            return w;
        }

        void send(Kind kind, int deal, int from, int to) {
            sent[from]++;
            if (row.size() == 60) {
                lost++;
            } else {
                row.add(new Message(kind, deal, from, to));
            }
        }

        void deliver(int place) {
            Message m = row.remove(place);
            if (ill[m.to]) {
                lost++;
                return;
            }
            got[m.to]++;
            Deal d = deals.get(m.deal);
            if (m.to == 4) {
                toBetween(m, d);
            } else {
                toClerk(m, d, d.parts[m.to]);
            }
        }

        void toClerk(Message m, Deal d, Part p) {
            Standing before = p.standing;
            if (m.kind == Kind.ASK) {
                if (before == Standing.NEW && willing[m.to]) {
                    p.standing = Standing.READY;
                    p.readyTick = tick;
                    send(Kind.YES, m.deal, m.to, 4);
                } else if (before == Standing.NEW) {
                    p.standing = Standing.TORN;
                    send(Kind.NO, m.deal, m.to, 4);
                } else if (before == Standing.READY) {
                    send(Kind.YES, m.deal, m.to, 4);
                } else if (before == Standing.TORN) {
                    send(Kind.NO, m.deal, m.to, 4);
                }
            } else if (m.kind == Kind.POSTS) {
                if (before == Standing.READY || before == Standing.POSTED) {
                    p.standing = Standing.POSTED;
                    send(Kind.GOT, m.deal, m.to, 4);
                }
            } else if (m.kind == Kind.TEARS) {
                if (before == Standing.NEW || before == Standing.READY) {
                    p.standing = Standing.TORN;
                }
            } else if (m.kind == Kind.WHAT) {
                if (before == Standing.POSTED) {
                    send(Kind.POSTS, m.deal, m.to, m.from);
                } else if (before != Standing.READY) {
                    p.standing = Standing.TORN;
                    send(Kind.TEARS, m.deal, m.to, m.from);
                }
            } else {
                throw new IllegalStateException("a clerk never gets " + m.kind);
            }
        }

        void toBetween(Message m, Deal d) {
            Part p = d.parts[m.from];
            if (m.kind == Kind.YES && d.mind == Mind.ASKING) {
                p.voted = true;
                if (Arrays.stream(d.parts).allMatch(q -> q == null || q.voted)) {
                    d.mind = Mind.POST;
                    d.postTick = tick;
                    for (int c = 0; c < 4; c++) {
                        if (d.parts[c] != null) {
                            send(Kind.POSTS, m.deal, 4, c);
                        }
                    }
                }
            } else if (m.kind == Kind.YES || m.kind == Kind.WHAT) {
                if (d.mind == Mind.POST || d.mind == Mind.DONE) {
                    send(Kind.POSTS, m.deal, 4, m.from);
                }
                if (d.mind == Mind.TEAR) {
                    send(Kind.TEARS, m.deal, 4, m.from);
                }
            } else if (m.kind == Kind.NO) {
                if (d.mind == Mind.ASKING) {
                    d.mind = Mind.TEAR;
                    for (int c = 0; c < 4; c++) {
                        if (d.parts[c] != null && c != m.from) {
                            send(Kind.TEARS, m.deal, 4, c);
                        }
                    }
                }
            } else if (m.kind == Kind.GOT) {
                if (d.mind == Mind.POST) {
                    p.receipt = true;
                    if (Arrays.stream(d.parts).allMatch(q -> q == null || q.receipt)) {
                        d.mind = Mind.DONE;
                    }
                }
            } else {
                throw new IllegalStateException("the go-between never gets " + m.kind);
            }
        }

        void tick() {
            for (int n = 0; n < deals.size() && !ill[4]; n++) {
                Deal d = deals.get(n);
                if (d.mind == Mind.ASKING && tick >= d.opened + settings[0]) {
                    d.mind = Mind.TEAR;
                    for (int c = 0; c < 4; c++) {
                        if (d.parts[c] != null) {
                            send(Kind.TEARS, n, 4, c);
                        }
                    }
                } else if (d.mind == Mind.POST && tick != d.postTick && (tick - d.postTick) % settings[2] == 0) {
                    for (int c = 0; c < 4; c++) {
                        if (d.parts[c] != null && !d.parts[c].receipt) {
                            send(Kind.POSTS, n, 4, c);
                        }
                    }
                }
            }
            for (int c = 0; c < 4; c++) {
                for (int n = 0; n < deals.size() && !ill[c]; n++) {
                    Deal d = deals.get(n);
                    Part p = d.parts[c];
                    if (p == null || p.standing != Standing.READY || tick == p.readyTick || (tick - p.readyTick) % settings[1] != 0) {
                        continue;
                    }
                    send(Kind.WHAT, n, c, 4);
                    for (int other = 0; other < 4 && settings[3] == 1; other++) {
                        if (other != c && d.parts[other] != null) {
                            send(Kind.WHAT, n, c, other);
                        }
                    }
                }
            }
            tick++;
        }

        void round() {
            for (int left = row.size(); left > 0; left--) {
                deliver(0);
            }
            tick();
        }

        /** 201 if not within 200 rounds. */
        int rounds(int deal) {
            World w = copy();
            int rounds = 0;
            while (!w.deals.get(deal).settled()) {
                if (rounds == 200) {
                    return 201;
                }
                w.round();
                rounds++;
            }
            return rounds;
        }
    }

    private static final Pattern TEXT = Pattern.compile(
            "(?:o(?=[0-3])0?1?2?3?|[dlt](?:0|[1-9][0-9]?)|[xr][0-4]|w[0-3][+-])"
            + "(?:;(?:o(?=[0-3])0?1?2?3?|[dlt](?:0|[1-9][0-9]?)|[xr][0-4]|w[0-3][+-]))*");

    private World world = new World();
    private final Deque<World> history = new ArrayDeque<>();
    private final World[] slots = new World[2];
    private String pad = "";

    private void record(World before) {
        history.addLast(before);
        if (history.size() > 6) {
            history.removeFirst();
        }
    }

    private int recorded(World before, int answer) {
        if (answer >= 0) {
            record(before);
        }
        return answer;
    }

    private boolean deal(int deal) {
        return deal >= 0 && deal < world.deals.size();
    }

    private boolean place(int place) {
        return place >= 0 && place < world.row.size();
    }

    private int illOnes() {
        int n = 0;
        for (boolean b : world.ill) {
            n += b ? 1 : 0;
        }
        return n;
    }

    // Each change as an order would make it: nothing is recorded here.

    private int doSet(int setting, int value) {
        int least = setting == 3 ? 0 : 1;
        int most = setting == 3 ? 1 : 50;
        if (setting < 0 || setting > 3 || value < least || value > most) {
            return -2;
        }
        int old = world.settings[setting];
        world.settings[setting] = value;
        return old;
    }

    private int doWilling(int clerk, int is) {
        if (clerk < 0 || clerk > 3) {
            return -1;
        }
        if (is != 0 && is != 1) {
            return -2;
        }
        int old = world.willing[clerk] ? 1 : 0;
        world.willing[clerk] = is == 1;
        return old;
    }

    private int doOpen(int clerks) {
        if (clerks < 1 || clerks > 15) {
            return -2;
        }
        if (world.deals.size() == 8) {
            return -4;
        }
        if (world.ill[4]) {
            return -5;
        }
        Deal d = new Deal();
        d.opened = world.tick;
        world.deals.add(d);
        for (int c = 0; c < 4; c++) {
            if ((clerks & 1 << c) != 0) {
                d.parts[c] = new Part();
                world.send(Kind.ASK, world.deals.size() - 1, 4, c);
            }
        }
        return world.deals.size() - 1;
    }

    private int doDeliver(int place) {
        if (!place(place)) {
            return -1;
        }
        world.deliver(place);
        return world.row.size();
    }

    private int doLose(int place) {
        if (!place(place)) {
            return -1;
        }
        world.row.remove(place);
        world.lost++;
        return world.row.size();
    }

    private int doTwice(int place) {
        if (!place(place)) {
            return -1;
        }
        if (world.row.size() == 60) {
            return -4;
        }
        world.row.add(world.row.get(place));
        return world.row.size();
    }

    private int doFall(int who) {
        if (who < 0 || who > 4) {
            return -1;
        }
        if (world.ill[who]) {
            return -5;
        }
        world.ill[who] = true;
        for (Deal d : world.deals) {
            if (who < 4 && d.parts[who] != null && d.parts[who].standing == Standing.NEW) {
                d.parts[who].standing = Standing.TORN;
            }
            if (who == 4 && d.mind == Mind.ASKING) {
                d.mind = Mind.TEAR;
            }
            if (who == 4 && d.mind == Mind.POST) {
                for (Part p : d.parts) {
                    if (p != null) {
                        p.receipt = false;
                    }
                }
            }
        }
        return illOnes();
    }

    private int doRise(int who) {
        if (who < 0 || who > 4) {
            return -1;
        }
        if (!world.ill[who]) {
            return -5;
        }
        world.ill[who] = false;
        return illOnes();
    }

    private int doTicks(int ticks) {
        if (ticks < 1 || ticks > 100) {
            return -2;
        }
        for (int i = 0; i < ticks; i++) {
            world.tick();
        }
        return world.tick;
    }

    int set(int setting, int value) {
        return recorded(world.copy(), doSet(setting, value));
    }

    int willing(int clerk, int is) {
        return recorded(world.copy(), doWilling(clerk, is));
    }

    int open(int clerks) {
        return recorded(world.copy(), doOpen(clerks));
    }

    int deliver(int place) {
        return recorded(world.copy(), doDeliver(place));
    }

    int lose(int place) {
        return recorded(world.copy(), doLose(place));
    }

    int twice(int place) {
        return recorded(world.copy(), doTwice(place));
    }

    int fall(int who) {
        return recorded(world.copy(), doFall(who));
    }

    int rise(int who) {
        return recorded(world.copy(), doRise(who));
    }

    int ticks(int ticks) {
        return recorded(world.copy(), doTicks(ticks));
    }

    int ofDeal(int deal, int what) {
        if (!deal(deal)) {
            return -1;
        }
        if (what < 0 || what > 8) {
            return -2;
        }
        Deal d = world.deals.get(deal);
        if (what == 1) {
            return d.mind.ordinal();
        }
        if (what == 2) {
            return d.opened;
        }
        int set = 0;
        for (int c = 0; c < 4; c++) {
            Part p = d.parts[c];
            boolean in = p != null && (what == 0 || what == 3 && p.voted || what == 4 && p.receipt
                    || what >= 5 && p.standing.ordinal() == what - 5);
            set += in ? 1 << c : 0;
        }
        return set;
    }

    int at(int deal, int clerk) {
        if (!deal(deal) || clerk < 0 || clerk > 3) {
            return -1;
        }
        Part p = world.deals.get(deal).parts[clerk];
        return p == null ? -6 : p.standing.ordinal();
    }

    int message(int place, int what) {
        if (!place(place)) {
            return -1;
        }
        Message m = world.row.get(place);
        switch (what) {
            case 0: return m.kind.ordinal();
            case 1: return m.deal;
            case 2: return m.from;
            case 3: return m.to;
            default: return -2;
        }
    }

    int who(int who, int what) {
        if (who < 0 || who > 4) {
            return -1;
        }
        switch (what) {
            case 0: return world.ill[who] ? 1 : 0;
            case 1: return world.willing[who] ? 1 : 0;
            case 2: return (int) world.row.stream().filter(m -> m.to == who).count();
            case 3: return world.got[who];
            case 4: return world.sent[who];
            default: return -2;
        }
    }

    int count(int what) {
        switch (what) {
            case 0: return world.tick;
            case 1: return world.deals.size();
            case 2: return world.row.size();
            case 3: return Arrays.stream(world.got).sum();
            case 4: return world.lost;
            case 5: return pad.length();
            case 6: return history.size();
            case 7: case 8: case 9: case 10: return world.settings[what - 7];
            case 11: return (int) world.deals.stream().filter(d -> d.some(Standing.POSTED)).count();
            case 12: return (int) world.deals.stream().filter(d -> d.some(Standing.TORN)).count();
            case 13: return (int) world.deals.stream().filter(d -> d.some(Standing.POSTED) && d.some(Standing.TORN)).count();
            default: return -2;
        }
    }

    int sure(int deal) {
        if (!deal(deal)) {
            return -1;
        }
        Deal d = world.deals.get(deal);
        if (d.mind == Mind.POST || d.mind == Mind.DONE) {
            return 1;
        }
        return d.mind == Mind.TEAR || d.some(Standing.TORN) ? 2 : 0;
    }

    int couldAsk(int deal) {
        if (!deal(deal)) {
            return -1;
        }
        Deal d = world.deals.get(deal);
        int set = 0;
        for (int c = 0; c < 4; c++) {
            if (d.parts[c] == null || world.ill[c] || d.parts[c].standing != Standing.READY) {
                continue;
            }
            boolean told = !world.ill[4] && d.mind != Mind.ASKING;
            for (int e = 0; e < 4; e++) {
                told |= world.settings[3] == 1 && e != c && d.parts[e] != null && !world.ill[e]
                        && d.parts[e].standing != Standing.READY;
            }
            set |= told ? 1 << c : 0;
        }
        return set;
    }

    int settledIn(int deal) {
        if (!deal(deal)) {
            return -1;
        }
        int rounds = world.rounds(deal);
        return rounds == 201 ? -6 : rounds;
    }

    int underwayIn(int rounds) {
        if (rounds < 1 || rounds > 50) {
            return -2;
        }
        World w = world.copy();
        for (int i = 0; i < rounds; i++) {
            w.round();
        }
        return w.row.size();
    }

    int worstLoss(int deal, int what) {
        if (!deal(deal)) {
            return -1;
        }
        if (what < 0 || what > 1) {
            return -2;
        }
        int[] rounds = new int[world.row.size()];
        for (int place = 0; place < rounds.length; place++) {
            World w = world.copy();
            w.row.remove(place);
            rounds[place] = w.rounds(deal);
        }
        int most = Arrays.stream(rounds).max().orElse(-6);
        for (int place = 0; place < rounds.length; place++) {
            if (rounds[place] == most) {
                return what == 0 ? place : most;
            }
        }
        return -6;
    }

    int put(long characters) {
        StringBuilder more = new StringBuilder();
        long left = characters;
        while ((left & 255) != 0) {
            more.insert(0, (char) (left & 255));
            left >>>= 8;
        }
        if (left != 0 || more.length() == 0 || more.chars().anyMatch(c -> c < 33 || c > 126)) {
            return -2;
        }
        if (pad.length() + more.length() > 60) {
            return -4;
        }
        pad += more;
        return pad.length();
    }

    int wipe() {
        int length = pad.length();
        pad = "";
        return length;
    }

    int fault() {
        if (TEXT.matcher(pad).matches()) {
            return -6;
        }
        for (int i = 0; i < pad.length(); i++) {
            Matcher m = TEXT.matcher(pad.substring(0, i + 1));
            if (!m.matches() && !m.hitEnd()) {
                return i;
            }
        }
        return pad.length();
    }

    int carryOut() {
        if (fault() != -6) {
            return -3;
        }
        record(world.copy());
        int done = 0;
        for (String order : pad.split(";")) {
            if (carryOut(order) < 0) {
                break;
            }
            done++;
        }
        pad = "";
        return done;
    }

    private int carryOut(String order) {
        String rest = order.substring(1);
        switch (order.charAt(0)) {
            case 'o': return doOpen(rest.chars().map(c -> 1 << c - '0').sum());
            case 'd': return doDeliver(Integer.parseInt(rest));
            case 'l': return doLose(Integer.parseInt(rest));
            case 'x': return doFall(Integer.parseInt(rest));
            case 'r': return doRise(Integer.parseInt(rest));
            case 'w': return doWilling(rest.charAt(0) - '0', rest.endsWith("+") ? 1 : 0);
            case 't': return doTicks(Integer.parseInt(rest));
            default: throw new IllegalStateException(order);
        }
    }

    int undo() {
        if (history.isEmpty()) {
            return -5;
        }
        world = history.removeLast();
        return history.size();
    }

    int save(int slot) {
        if (slot < 0 || slot > 1) {
            return -2;
        }
        slots[slot] = world.copy();
        return world.tick;
    }

    int restore(int slot) {
        if (slot < 0 || slot > 1) {
            return -2;
        }
        if (slots[slot] == null) {
            return -5;
        }
        record(world);
        world = slots[slot].copy();
        return world.tick;
    }
}
